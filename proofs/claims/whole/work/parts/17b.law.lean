set_option maxHeartbeats 400000
/-! ===== THE LAW: its cases ===== -/
section Law2
variable {L i : Nat} {xs : Nat → Int32} {m : zM} {u : Nat} {C : zC} {Q : zQ} {B rt dp : Nat} {J : zJ} {pc : Nat} {K : zK} {ls : zL} {st : List zV} {l a b : Nat} {z : Int32} {w : Int64}
theorem zys_0 (h : i < L) (hL : L ≤ 3584) : z_ex C Q B rt dp (some (L, xs)) J pc (.iaload, l, a, b, z, w) K ls (zi (nI i) :: zr (some (34, 1, 0)) :: st) m u = K ls (zi (xs i) :: st) m u := by
  show (vp_in (nI i) L ∧ K ls (zi (xs (nI i).toNatClampNeg) :: st) m u) = _
  rw [nI_clamp (by omega), eq_true (show vp_in (nI i) L from nI_in h (by omega)), true_and]
theorem zys_1 (h : i + 1 < L) (hL : L ≤ 3584) : z_ex C Q B rt dp (some (L, xs)) J pc (.iaload, l, a, b, z, w) K ls (zi (nI i + 1) :: zr (some (34, 1, 0)) :: st) m u = K ls (zi (xs (i + 1)) :: st) m u := by
  rw [show nI i + (1 : Int32) = nI (i + 1) from nI_add i 1]
  exact zys_0 h hL
theorem zys_2 (h : i + 2 < L) (hL : L ≤ 3584) : z_ex C Q B rt dp (some (L, xs)) J pc (.iaload, l, a, b, z, w) K ls (zi (nI i + 2) :: zr (some (34, 1, 0)) :: st) m u = K ls (zi (xs (i + 2)) :: st) m u := by
  rw [show nI i + (2 : Int32) = nI (i + 2) from nI_add i 2]
  exact zys_0 h hL
theorem zys_3 (h : i + 3 < L) (hL : L ≤ 3584) : z_ex C Q B rt dp (some (L, xs)) J pc (.iaload, l, a, b, z, w) K ls (zi (nI i + 3) :: zr (some (34, 1, 0)) :: st) m u = K ls (zi (xs (i + 3)) :: st) m u := by
  rw [show nI i + (3 : Int32) = nI (i + 3) from nI_add i 3]
  exact zys_0 h hL
theorem zys_4 (h : i + 4 < L) (hL : L ≤ 3584) : z_ex C Q B rt dp (some (L, xs)) J pc (.iaload, l, a, b, z, w) K ls (zi (nI i + 4) :: zr (some (34, 1, 0)) :: st) m u = K ls (zi (xs (i + 4)) :: st) m u := by
  rw [show nI i + (4 : Int32) = nI (i + 4) from nI_add i 4]
  exact zys_0 h hL
theorem zys_5 (h : i + 5 < L) (hL : L ≤ 3584) : z_ex C Q B rt dp (some (L, xs)) J pc (.iaload, l, a, b, z, w) K ls (zi (nI i + 5) :: zr (some (34, 1, 0)) :: st) m u = K ls (zi (xs (i + 5)) :: st) m u := by
  rw [show nI i + (5 : Int32) = nI (i + 5) from nI_add i 5]
  exact zys_0 h hL
theorem zys_6 (h : i + 6 < L) (hL : L ≤ 3584) : z_ex C Q B rt dp (some (L, xs)) J pc (.iaload, l, a, b, z, w) K ls (zi (nI i + 6) :: zr (some (34, 1, 0)) :: st) m u = K ls (zi (xs (i + 6)) :: st) m u := by
  rw [show nI i + (6 : Int32) = nI (i + 6) from nI_add i 6]
  exact zys_0 h hL
def lwK (L : Nat) (xs : Nat → Int32) (i u : Nat) : Prop := ∀ m' u', Iv m' (z_g m' 1) → u' ≤ u + 2 → zA L xs 1769 [some (zr (some (34, 1, 0))), some (zr (some (5, 0, 0))), some (zr (some (6, 1, 0))), some (zi (nI i))] [] m' u'
set_option maxRecDepth 100000 in
set_option maxHeartbeats 4000000 in
theorem lw_220 (hi : i + 7 ≤ L) (hL : L ≤ 3584) (hu : u + 2 ≤ 1100) (h : Iv m (z_g m 1)) (K : lwK L xs i u) : zA L xs 220 [some (zr (some (34, 1, 0))), some (zr (some (5, 0, 0))), some (zr (some (6, 1, 0))), some (zi (nI i))] [] m u := by
  obtain ⟨v, m1, m2, h1, h2, h3⟩ : Both 70 133 [zi (xs (i + 1))] m := st_70 h rfl
  have hu0 : u ≤ 1100 := by omega
  have hu1 : u + 1 ≤ 1100 := by omega
  simp only [↓za_220, ↓zx_nil, ↓zx_cons, ↓zp_li, ↓zp_ll, ↓zp_lr, ↓zq_li0, ↓zq_li1, ↓zq_ll0, ↓zq_ll1, ↓zq_lr0, ↓zq_lr1, ↓zk_0, ↓zk_1n, ↓zk_1i, ↓zk_1r, ↓zk_1l, ↓zk_2, zp_okt, ↓zp_okl, zp_sh0, zp_sh1, zp_psn, zp_pss, ↓zp_ri20, ↓zp_ri21, ↓zp_br, ↓reduceIte, Nat.reduceAdd, Nat.zero_add, Nat.add_zero, Nat.le_refl, Nat.zero_le, ↓zx_aload_0, ↓zx_aload_1, ↓zx_aload_2, ↓zx_iload_3, ↓zx_iconst, ↓zx_bipush, ↓zy_iadd, ↓zx_goto, ↓zy_ic_eq, ↓zy_if_eq, ↓zy_lcmp, ↓zx_iret, eq_self, if_true, if_false, ↓zys_1 (i := i) (show i + 1 < L by omega) hL, ↓zys_2 (i := i) (show i + 2 < L by omega) hL, ↓zys_3 (i := i) (show i + 3 < L by omega) hL, ↓zys_4 (i := i) (show i + 4 < L by omega) hL, ↓zys_5 (i := i) (show i + 5 < L by omega) hL, ↓zys_6 (i := i) (show i + 6 < L by omega) hL, ↓zyc_70, ↓zyc_133, ↓h1, ↓h2, hu0, hu1, hu]
  exact K m2 _ h3 (by omega)
set_option maxRecDepth 100000 in
set_option maxHeartbeats 4000000 in
theorem lw_243 (hi : i + 7 ≤ L) (hL : L ≤ 3584) (hu : u + 2 ≤ 1100) (h : Iv m (z_g m 1)) (K : lwK L xs i u) : zA L xs 243 [some (zr (some (34, 1, 0))), some (zr (some (5, 0, 0))), some (zr (some (6, 1, 0))), some (zi (nI i))] [] m u := by
  obtain ⟨v, m1, m2, h1, h2, h3⟩ : Both 76 150 [zi (xs (i + 1)), zi (xs (i + 2))] m := st_76 h rfl
  have hu0 : u ≤ 1100 := by omega
  have hu1 : u + 1 ≤ 1100 := by omega
  simp only [↓za_243, ↓zx_nil, ↓zx_cons, ↓zp_li, ↓zp_ll, ↓zp_lr, ↓zq_li0, ↓zq_li1, ↓zq_ll0, ↓zq_ll1, ↓zq_lr0, ↓zq_lr1, ↓zk_0, ↓zk_1n, ↓zk_1i, ↓zk_1r, ↓zk_1l, ↓zk_2, zp_okt, ↓zp_okl, zp_sh0, zp_sh1, zp_psn, zp_pss, ↓zp_ri20, ↓zp_ri21, ↓zp_br, ↓reduceIte, Nat.reduceAdd, Nat.zero_add, Nat.add_zero, Nat.le_refl, Nat.zero_le, ↓zx_aload_0, ↓zx_aload_1, ↓zx_aload_2, ↓zx_iload_3, ↓zx_iconst, ↓zx_bipush, ↓zy_iadd, ↓zx_goto, ↓zy_ic_eq, ↓zy_if_eq, ↓zy_lcmp, ↓zx_iret, eq_self, if_true, if_false, ↓zys_1 (i := i) (show i + 1 < L by omega) hL, ↓zys_2 (i := i) (show i + 2 < L by omega) hL, ↓zys_3 (i := i) (show i + 3 < L by omega) hL, ↓zys_4 (i := i) (show i + 4 < L by omega) hL, ↓zys_5 (i := i) (show i + 5 < L by omega) hL, ↓zys_6 (i := i) (show i + 6 < L by omega) hL, ↓zyc_76, ↓zyc_150, ↓h1, ↓h2, hu0, hu1, hu]
  exact K m2 _ h3 (by omega)
set_option maxRecDepth 100000 in
set_option maxHeartbeats 4000000 in
theorem lw_276 (hi : i + 7 ≤ L) (hL : L ≤ 3584) (hu : u + 2 ≤ 1100) (h : Iv m (z_g m 1)) (K : lwK L xs i u) : zA L xs 276 [some (zr (some (34, 1, 0))), some (zr (some (5, 0, 0))), some (zr (some (6, 1, 0))), some (zi (nI i))] [] m u := by
  obtain ⟨v, m1, m2, h1, h2, h3⟩ : Both 77 153 [zi (xs (i + 1)), zi (xs (i + 2))] m := st_77 h rfl
  have hu0 : u ≤ 1100 := by omega
  have hu1 : u + 1 ≤ 1100 := by omega
  simp only [↓za_276, ↓zx_nil, ↓zx_cons, ↓zp_li, ↓zp_ll, ↓zp_lr, ↓zq_li0, ↓zq_li1, ↓zq_ll0, ↓zq_ll1, ↓zq_lr0, ↓zq_lr1, ↓zk_0, ↓zk_1n, ↓zk_1i, ↓zk_1r, ↓zk_1l, ↓zk_2, zp_okt, ↓zp_okl, zp_sh0, zp_sh1, zp_psn, zp_pss, ↓zp_ri20, ↓zp_ri21, ↓zp_br, ↓reduceIte, Nat.reduceAdd, Nat.zero_add, Nat.add_zero, Nat.le_refl, Nat.zero_le, ↓zx_aload_0, ↓zx_aload_1, ↓zx_aload_2, ↓zx_iload_3, ↓zx_iconst, ↓zx_bipush, ↓zy_iadd, ↓zx_goto, ↓zy_ic_eq, ↓zy_if_eq, ↓zy_lcmp, ↓zx_iret, eq_self, if_true, if_false, ↓zys_1 (i := i) (show i + 1 < L by omega) hL, ↓zys_2 (i := i) (show i + 2 < L by omega) hL, ↓zys_3 (i := i) (show i + 3 < L by omega) hL, ↓zys_4 (i := i) (show i + 4 < L by omega) hL, ↓zys_5 (i := i) (show i + 5 < L by omega) hL, ↓zys_6 (i := i) (show i + 6 < L by omega) hL, ↓zyc_77, ↓zyc_153, ↓h1, ↓h2, hu0, hu1, hu]
  exact K m2 _ h3 (by omega)
set_option maxRecDepth 100000 in
set_option maxHeartbeats 4000000 in
theorem lw_309 (hi : i + 7 ≤ L) (hL : L ≤ 3584) (hu : u + 2 ≤ 1100) (h : Iv m (z_g m 1)) (K : lwK L xs i u) : zA L xs 309 [some (zr (some (34, 1, 0))), some (zr (some (5, 0, 0))), some (zr (some (6, 1, 0))), some (zi (nI i))] [] m u := by
  obtain ⟨v, m1, m2, h1, h2, h3⟩ : Both 78 154 [zi (xs (i + 1)), zi (xs (i + 2)), zi (xs (i + 3))] m := st_78 h rfl
  have hu0 : u ≤ 1100 := by omega
  have hu1 : u + 1 ≤ 1100 := by omega
  simp only [↓za_309, ↓zx_nil, ↓zx_cons, ↓zp_li, ↓zp_ll, ↓zp_lr, ↓zq_li0, ↓zq_li1, ↓zq_ll0, ↓zq_ll1, ↓zq_lr0, ↓zq_lr1, ↓zk_0, ↓zk_1n, ↓zk_1i, ↓zk_1r, ↓zk_1l, ↓zk_2, zp_okt, ↓zp_okl, zp_sh0, zp_sh1, zp_psn, zp_pss, ↓zp_ri20, ↓zp_ri21, ↓zp_br, ↓reduceIte, Nat.reduceAdd, Nat.zero_add, Nat.add_zero, Nat.le_refl, Nat.zero_le, ↓zx_aload_0, ↓zx_aload_1, ↓zx_aload_2, ↓zx_iload_3, ↓zx_iconst, ↓zx_bipush, ↓zy_iadd, ↓zx_goto, ↓zy_ic_eq, ↓zy_if_eq, ↓zy_lcmp, ↓zx_iret, eq_self, if_true, if_false, ↓zys_1 (i := i) (show i + 1 < L by omega) hL, ↓zys_2 (i := i) (show i + 2 < L by omega) hL, ↓zys_3 (i := i) (show i + 3 < L by omega) hL, ↓zys_4 (i := i) (show i + 4 < L by omega) hL, ↓zys_5 (i := i) (show i + 5 < L by omega) hL, ↓zys_6 (i := i) (show i + 6 < L by omega) hL, ↓zyc_78, ↓zyc_154, ↓h1, ↓h2, hu0, hu1, hu]
  exact K m2 _ h3 (by omega)
set_option maxRecDepth 100000 in
set_option maxHeartbeats 4000000 in
theorem lw_352 (hi : i + 7 ≤ L) (hL : L ≤ 3584) (hu : u + 2 ≤ 1100) (h : Iv m (z_g m 1)) (K : lwK L xs i u) : zA L xs 352 [some (zr (some (34, 1, 0))), some (zr (some (5, 0, 0))), some (zr (some (6, 1, 0))), some (zi (nI i))] [] m u := by
  obtain ⟨v, m1, m2, h1, h2, h3⟩ : Both 79 157 [zi (xs (i + 1)), zi (xs (i + 2)), zi (xs (i + 3)), zi (xs (i + 4))] m := st_79 h rfl
  have hu0 : u ≤ 1100 := by omega
  have hu1 : u + 1 ≤ 1100 := by omega
  simp only [↓za_352, ↓zx_nil, ↓zx_cons, ↓zp_li, ↓zp_ll, ↓zp_lr, ↓zq_li0, ↓zq_li1, ↓zq_ll0, ↓zq_ll1, ↓zq_lr0, ↓zq_lr1, ↓zk_0, ↓zk_1n, ↓zk_1i, ↓zk_1r, ↓zk_1l, ↓zk_2, zp_okt, ↓zp_okl, zp_sh0, zp_sh1, zp_psn, zp_pss, ↓zp_ri20, ↓zp_ri21, ↓zp_br, ↓reduceIte, Nat.reduceAdd, Nat.zero_add, Nat.add_zero, Nat.le_refl, Nat.zero_le, ↓zx_aload_0, ↓zx_aload_1, ↓zx_aload_2, ↓zx_iload_3, ↓zx_iconst, ↓zx_bipush, ↓zy_iadd, ↓zx_goto, ↓zy_ic_eq, ↓zy_if_eq, ↓zy_lcmp, ↓zx_iret, eq_self, if_true, if_false, ↓zys_1 (i := i) (show i + 1 < L by omega) hL, ↓zys_2 (i := i) (show i + 2 < L by omega) hL, ↓zys_3 (i := i) (show i + 3 < L by omega) hL, ↓zys_4 (i := i) (show i + 4 < L by omega) hL, ↓zys_5 (i := i) (show i + 5 < L by omega) hL, ↓zys_6 (i := i) (show i + 6 < L by omega) hL, ↓zyc_79, ↓zyc_157, ↓h1, ↓h2, hu0, hu1, hu]
  exact K m2 _ h3 (by omega)
set_option maxRecDepth 100000 in
set_option maxHeartbeats 4000000 in
theorem lw_405 (hi : i + 7 ≤ L) (hL : L ≤ 3584) (hu : u + 2 ≤ 1100) (h : Iv m (z_g m 1)) (K : lwK L xs i u) : zA L xs 405 [some (zr (some (34, 1, 0))), some (zr (some (5, 0, 0))), some (zr (some (6, 1, 0))), some (zi (nI i))] [] m u := by
  obtain ⟨v, m1, m2, h1, h2, h3⟩ : Both 80 159 [zi (xs (i + 1)), zi (xs (i + 2)), zi (xs (i + 3))] m := st_80 h rfl
  have hu0 : u ≤ 1100 := by omega
  have hu1 : u + 1 ≤ 1100 := by omega
  simp only [↓za_405, ↓zx_nil, ↓zx_cons, ↓zp_li, ↓zp_ll, ↓zp_lr, ↓zq_li0, ↓zq_li1, ↓zq_ll0, ↓zq_ll1, ↓zq_lr0, ↓zq_lr1, ↓zk_0, ↓zk_1n, ↓zk_1i, ↓zk_1r, ↓zk_1l, ↓zk_2, zp_okt, ↓zp_okl, zp_sh0, zp_sh1, zp_psn, zp_pss, ↓zp_ri20, ↓zp_ri21, ↓zp_br, ↓reduceIte, Nat.reduceAdd, Nat.zero_add, Nat.add_zero, Nat.le_refl, Nat.zero_le, ↓zx_aload_0, ↓zx_aload_1, ↓zx_aload_2, ↓zx_iload_3, ↓zx_iconst, ↓zx_bipush, ↓zy_iadd, ↓zx_goto, ↓zy_ic_eq, ↓zy_if_eq, ↓zy_lcmp, ↓zx_iret, eq_self, if_true, if_false, ↓zys_1 (i := i) (show i + 1 < L by omega) hL, ↓zys_2 (i := i) (show i + 2 < L by omega) hL, ↓zys_3 (i := i) (show i + 3 < L by omega) hL, ↓zys_4 (i := i) (show i + 4 < L by omega) hL, ↓zys_5 (i := i) (show i + 5 < L by omega) hL, ↓zys_6 (i := i) (show i + 6 < L by omega) hL, ↓zyc_80, ↓zyc_159, ↓h1, ↓h2, hu0, hu1, hu]
  exact K m2 _ h3 (by omega)
set_option maxRecDepth 100000 in
set_option maxHeartbeats 4000000 in
theorem lw_448 (hi : i + 7 ≤ L) (hL : L ≤ 3584) (hu : u + 2 ≤ 1100) (h : Iv m (z_g m 1)) (K : lwK L xs i u) : zA L xs 448 [some (zr (some (34, 1, 0))), some (zr (some (5, 0, 0))), some (zr (some (6, 1, 0))), some (zi (nI i))] [] m u := by
  obtain ⟨v, m1, m2, h1, h2, h3⟩ : Both 82 161 [zi (xs (i + 1)), zi (xs (i + 2)), zi (xs (i + 3))] m := st_82 h rfl
  have hu0 : u ≤ 1100 := by omega
  have hu1 : u + 1 ≤ 1100 := by omega
  simp only [↓za_448, ↓zx_nil, ↓zx_cons, ↓zp_li, ↓zp_ll, ↓zp_lr, ↓zq_li0, ↓zq_li1, ↓zq_ll0, ↓zq_ll1, ↓zq_lr0, ↓zq_lr1, ↓zk_0, ↓zk_1n, ↓zk_1i, ↓zk_1r, ↓zk_1l, ↓zk_2, zp_okt, ↓zp_okl, zp_sh0, zp_sh1, zp_psn, zp_pss, ↓zp_ri20, ↓zp_ri21, ↓zp_br, ↓reduceIte, Nat.reduceAdd, Nat.zero_add, Nat.add_zero, Nat.le_refl, Nat.zero_le, ↓zx_aload_0, ↓zx_aload_1, ↓zx_aload_2, ↓zx_iload_3, ↓zx_iconst, ↓zx_bipush, ↓zy_iadd, ↓zx_goto, ↓zy_ic_eq, ↓zy_if_eq, ↓zy_lcmp, ↓zx_iret, eq_self, if_true, if_false, ↓zys_1 (i := i) (show i + 1 < L by omega) hL, ↓zys_2 (i := i) (show i + 2 < L by omega) hL, ↓zys_3 (i := i) (show i + 3 < L by omega) hL, ↓zys_4 (i := i) (show i + 4 < L by omega) hL, ↓zys_5 (i := i) (show i + 5 < L by omega) hL, ↓zys_6 (i := i) (show i + 6 < L by omega) hL, ↓zyc_82, ↓zyc_161, ↓h1, ↓h2, hu0, hu1, hu]
  exact K m2 _ h3 (by omega)
set_option maxRecDepth 100000 in
set_option maxHeartbeats 4000000 in
theorem lw_491 (hi : i + 7 ≤ L) (hL : L ≤ 3584) (hu : u + 2 ≤ 1100) (h : Iv m (z_g m 1)) (K : lwK L xs i u) : zA L xs 491 [some (zr (some (34, 1, 0))), some (zr (some (5, 0, 0))), some (zr (some (6, 1, 0))), some (zi (nI i))] [] m u := by
  obtain ⟨v, m1, m2, h1, h2, h3⟩ : Both 83 162 [zi (xs (i + 1)), zi (xs (i + 2)), zi (xs (i + 3))] m := st_83 h rfl
  have hu0 : u ≤ 1100 := by omega
  have hu1 : u + 1 ≤ 1100 := by omega
  simp only [↓za_491, ↓zx_nil, ↓zx_cons, ↓zp_li, ↓zp_ll, ↓zp_lr, ↓zq_li0, ↓zq_li1, ↓zq_ll0, ↓zq_ll1, ↓zq_lr0, ↓zq_lr1, ↓zk_0, ↓zk_1n, ↓zk_1i, ↓zk_1r, ↓zk_1l, ↓zk_2, zp_okt, ↓zp_okl, zp_sh0, zp_sh1, zp_psn, zp_pss, ↓zp_ri20, ↓zp_ri21, ↓zp_br, ↓reduceIte, Nat.reduceAdd, Nat.zero_add, Nat.add_zero, Nat.le_refl, Nat.zero_le, ↓zx_aload_0, ↓zx_aload_1, ↓zx_aload_2, ↓zx_iload_3, ↓zx_iconst, ↓zx_bipush, ↓zy_iadd, ↓zx_goto, ↓zy_ic_eq, ↓zy_if_eq, ↓zy_lcmp, ↓zx_iret, eq_self, if_true, if_false, ↓zys_1 (i := i) (show i + 1 < L by omega) hL, ↓zys_2 (i := i) (show i + 2 < L by omega) hL, ↓zys_3 (i := i) (show i + 3 < L by omega) hL, ↓zys_4 (i := i) (show i + 4 < L by omega) hL, ↓zys_5 (i := i) (show i + 5 < L by omega) hL, ↓zys_6 (i := i) (show i + 6 < L by omega) hL, ↓zyc_83, ↓zyc_162, ↓h1, ↓h2, hu0, hu1, hu]
  exact K m2 _ h3 (by omega)
set_option maxRecDepth 100000 in
set_option maxHeartbeats 4000000 in
theorem lw_534 (hi : i + 7 ≤ L) (hL : L ≤ 3584) (hu : u + 2 ≤ 1100) (h : Iv m (z_g m 1)) (K : lwK L xs i u) : zA L xs 534 [some (zr (some (34, 1, 0))), some (zr (some (5, 0, 0))), some (zr (some (6, 1, 0))), some (zi (nI i))] [] m u := by
  obtain ⟨v, m1, m2, h1, h2, h3⟩ : Both 85 171 [zi (xs (i + 1)), zi (xs (i + 2))] m := st_85 h rfl
  have hu0 : u ≤ 1100 := by omega
  have hu1 : u + 1 ≤ 1100 := by omega
  simp only [↓za_534, ↓zx_nil, ↓zx_cons, ↓zp_li, ↓zp_ll, ↓zp_lr, ↓zq_li0, ↓zq_li1, ↓zq_ll0, ↓zq_ll1, ↓zq_lr0, ↓zq_lr1, ↓zk_0, ↓zk_1n, ↓zk_1i, ↓zk_1r, ↓zk_1l, ↓zk_2, zp_okt, ↓zp_okl, zp_sh0, zp_sh1, zp_psn, zp_pss, ↓zp_ri20, ↓zp_ri21, ↓zp_br, ↓reduceIte, Nat.reduceAdd, Nat.zero_add, Nat.add_zero, Nat.le_refl, Nat.zero_le, ↓zx_aload_0, ↓zx_aload_1, ↓zx_aload_2, ↓zx_iload_3, ↓zx_iconst, ↓zx_bipush, ↓zy_iadd, ↓zx_goto, ↓zy_ic_eq, ↓zy_if_eq, ↓zy_lcmp, ↓zx_iret, eq_self, if_true, if_false, ↓zys_1 (i := i) (show i + 1 < L by omega) hL, ↓zys_2 (i := i) (show i + 2 < L by omega) hL, ↓zys_3 (i := i) (show i + 3 < L by omega) hL, ↓zys_4 (i := i) (show i + 4 < L by omega) hL, ↓zys_5 (i := i) (show i + 5 < L by omega) hL, ↓zys_6 (i := i) (show i + 6 < L by omega) hL, ↓zyc_85, ↓zyc_171, ↓h1, ↓h2, hu0, hu1, hu]
  exact K m2 _ h3 (by omega)
set_option maxRecDepth 100000 in
set_option maxHeartbeats 4000000 in
theorem lw_567 (hi : i + 7 ≤ L) (hL : L ≤ 3584) (hu : u + 2 ≤ 1100) (h : Iv m (z_g m 1)) (K : lwK L xs i u) : zA L xs 567 [some (zr (some (34, 1, 0))), some (zr (some (5, 0, 0))), some (zr (some (6, 1, 0))), some (zi (nI i))] [] m u := by
  obtain ⟨v, m1, m2, h1, h2, h3⟩ : Both 86 172 [zi (xs (i + 1)), zi (xs (i + 2)), zi (xs (i + 3)), zi (xs (i + 4)), zi (xs (i + 5)), zi (xs (i + 6))] m := st_86 h rfl
  have hu0 : u ≤ 1100 := by omega
  have hu1 : u + 1 ≤ 1100 := by omega
  simp only [↓za_567, ↓zx_nil, ↓zx_cons, ↓zp_li, ↓zp_ll, ↓zp_lr, ↓zq_li0, ↓zq_li1, ↓zq_ll0, ↓zq_ll1, ↓zq_lr0, ↓zq_lr1, ↓zk_0, ↓zk_1n, ↓zk_1i, ↓zk_1r, ↓zk_1l, ↓zk_2, zp_okt, ↓zp_okl, zp_sh0, zp_sh1, zp_psn, zp_pss, ↓zp_ri20, ↓zp_ri21, ↓zp_br, ↓reduceIte, Nat.reduceAdd, Nat.zero_add, Nat.add_zero, Nat.le_refl, Nat.zero_le, ↓zx_aload_0, ↓zx_aload_1, ↓zx_aload_2, ↓zx_iload_3, ↓zx_iconst, ↓zx_bipush, ↓zy_iadd, ↓zx_goto, ↓zy_ic_eq, ↓zy_if_eq, ↓zy_lcmp, ↓zx_iret, eq_self, if_true, if_false, ↓zys_1 (i := i) (show i + 1 < L by omega) hL, ↓zys_2 (i := i) (show i + 2 < L by omega) hL, ↓zys_3 (i := i) (show i + 3 < L by omega) hL, ↓zys_4 (i := i) (show i + 4 < L by omega) hL, ↓zys_5 (i := i) (show i + 5 < L by omega) hL, ↓zys_6 (i := i) (show i + 6 < L by omega) hL, ↓zyc_86, ↓zyc_172, ↓h1, ↓h2, hu0, hu1, hu]
  exact K m2 _ h3 (by omega)
set_option maxRecDepth 100000 in
set_option maxHeartbeats 4000000 in
theorem lw_642 (hi : i + 7 ≤ L) (hL : L ≤ 3584) (hu : u + 2 ≤ 1100) (h : Iv m (z_g m 1)) (K : lwK L xs i u) : zA L xs 642 [some (zr (some (34, 1, 0))), some (zr (some (5, 0, 0))), some (zr (some (6, 1, 0))), some (zi (nI i))] [] m u := by
  obtain ⟨v, m1, m2, h1, h2, h3⟩ : Both 87 173 [zi (xs (i + 1))] m := st_87 h rfl
  have hu0 : u ≤ 1100 := by omega
  have hu1 : u + 1 ≤ 1100 := by omega
  simp only [↓za_642, ↓zx_nil, ↓zx_cons, ↓zp_li, ↓zp_ll, ↓zp_lr, ↓zq_li0, ↓zq_li1, ↓zq_ll0, ↓zq_ll1, ↓zq_lr0, ↓zq_lr1, ↓zk_0, ↓zk_1n, ↓zk_1i, ↓zk_1r, ↓zk_1l, ↓zk_2, zp_okt, ↓zp_okl, zp_sh0, zp_sh1, zp_psn, zp_pss, ↓zp_ri20, ↓zp_ri21, ↓zp_br, ↓reduceIte, Nat.reduceAdd, Nat.zero_add, Nat.add_zero, Nat.le_refl, Nat.zero_le, ↓zx_aload_0, ↓zx_aload_1, ↓zx_aload_2, ↓zx_iload_3, ↓zx_iconst, ↓zx_bipush, ↓zy_iadd, ↓zx_goto, ↓zy_ic_eq, ↓zy_if_eq, ↓zy_lcmp, ↓zx_iret, eq_self, if_true, if_false, ↓zys_1 (i := i) (show i + 1 < L by omega) hL, ↓zys_2 (i := i) (show i + 2 < L by omega) hL, ↓zys_3 (i := i) (show i + 3 < L by omega) hL, ↓zys_4 (i := i) (show i + 4 < L by omega) hL, ↓zys_5 (i := i) (show i + 5 < L by omega) hL, ↓zys_6 (i := i) (show i + 6 < L by omega) hL, ↓zyc_87, ↓zyc_173, ↓h1, ↓h2, hu0, hu1, hu]
  exact K m2 _ h3 (by omega)
set_option maxRecDepth 100000 in
set_option maxHeartbeats 4000000 in
theorem lw_734 (hi : i + 7 ≤ L) (hL : L ≤ 3584) (hu : u + 2 ≤ 1100) (h : Iv m (z_g m 1)) (K : lwK L xs i u) : zA L xs 734 [some (zr (some (34, 1, 0))), some (zr (some (5, 0, 0))), some (zr (some (6, 1, 0))), some (zi (nI i))] [] m u := by
  obtain ⟨v, m1, m2, h1, h2, h3⟩ : Both 90 188 [zi (xs (i + 1)), zi (xs (i + 2)), zi (xs (i + 3))] m := st_90 h rfl
  have hu0 : u ≤ 1100 := by omega
  have hu1 : u + 1 ≤ 1100 := by omega
  simp only [↓za_734, ↓zx_nil, ↓zx_cons, ↓zp_li, ↓zp_ll, ↓zp_lr, ↓zq_li0, ↓zq_li1, ↓zq_ll0, ↓zq_ll1, ↓zq_lr0, ↓zq_lr1, ↓zk_0, ↓zk_1n, ↓zk_1i, ↓zk_1r, ↓zk_1l, ↓zk_2, zp_okt, ↓zp_okl, zp_sh0, zp_sh1, zp_psn, zp_pss, ↓zp_ri20, ↓zp_ri21, ↓zp_br, ↓reduceIte, Nat.reduceAdd, Nat.zero_add, Nat.add_zero, Nat.le_refl, Nat.zero_le, ↓zx_aload_0, ↓zx_aload_1, ↓zx_aload_2, ↓zx_iload_3, ↓zx_iconst, ↓zx_bipush, ↓zy_iadd, ↓zx_goto, ↓zy_ic_eq, ↓zy_if_eq, ↓zy_lcmp, ↓zx_iret, eq_self, if_true, if_false, ↓zys_1 (i := i) (show i + 1 < L by omega) hL, ↓zys_2 (i := i) (show i + 2 < L by omega) hL, ↓zys_3 (i := i) (show i + 3 < L by omega) hL, ↓zys_4 (i := i) (show i + 4 < L by omega) hL, ↓zys_5 (i := i) (show i + 5 < L by omega) hL, ↓zys_6 (i := i) (show i + 6 < L by omega) hL, ↓zyc_90, ↓zyc_188, ↓h1, ↓h2, hu0, hu1, hu]
  exact K m2 _ h3 (by omega)
set_option maxRecDepth 100000 in
set_option maxHeartbeats 4000000 in
theorem lw_777 (hi : i + 7 ≤ L) (hL : L ≤ 3584) (hu : u + 2 ≤ 1100) (h : Iv m (z_g m 1)) (K : lwK L xs i u) : zA L xs 777 [some (zr (some (34, 1, 0))), some (zr (some (5, 0, 0))), some (zr (some (6, 1, 0))), some (zi (nI i))] [] m u := by
  obtain ⟨v, m1, m2, h1, h2, h3⟩ : Both 91 190 [zi (xs (i + 1)), zi (xs (i + 2)), zi (xs (i + 3))] m := st_91 h rfl
  have hu0 : u ≤ 1100 := by omega
  have hu1 : u + 1 ≤ 1100 := by omega
  simp only [↓za_777, ↓zx_nil, ↓zx_cons, ↓zp_li, ↓zp_ll, ↓zp_lr, ↓zq_li0, ↓zq_li1, ↓zq_ll0, ↓zq_ll1, ↓zq_lr0, ↓zq_lr1, ↓zk_0, ↓zk_1n, ↓zk_1i, ↓zk_1r, ↓zk_1l, ↓zk_2, zp_okt, ↓zp_okl, zp_sh0, zp_sh1, zp_psn, zp_pss, ↓zp_ri20, ↓zp_ri21, ↓zp_br, ↓reduceIte, Nat.reduceAdd, Nat.zero_add, Nat.add_zero, Nat.le_refl, Nat.zero_le, ↓zx_aload_0, ↓zx_aload_1, ↓zx_aload_2, ↓zx_iload_3, ↓zx_iconst, ↓zx_bipush, ↓zy_iadd, ↓zx_goto, ↓zy_ic_eq, ↓zy_if_eq, ↓zy_lcmp, ↓zx_iret, eq_self, if_true, if_false, ↓zys_1 (i := i) (show i + 1 < L by omega) hL, ↓zys_2 (i := i) (show i + 2 < L by omega) hL, ↓zys_3 (i := i) (show i + 3 < L by omega) hL, ↓zys_4 (i := i) (show i + 4 < L by omega) hL, ↓zys_5 (i := i) (show i + 5 < L by omega) hL, ↓zys_6 (i := i) (show i + 6 < L by omega) hL, ↓zyc_91, ↓zyc_190, ↓h1, ↓h2, hu0, hu1, hu]
  exact K m2 _ h3 (by omega)
set_option maxRecDepth 100000 in
set_option maxHeartbeats 4000000 in
theorem lw_820 (hi : i + 7 ≤ L) (hL : L ≤ 3584) (hu : u + 2 ≤ 1100) (h : Iv m (z_g m 1)) (K : lwK L xs i u) : zA L xs 820 [some (zr (some (34, 1, 0))), some (zr (some (5, 0, 0))), some (zr (some (6, 1, 0))), some (zi (nI i))] [] m u := by
  obtain ⟨v, m1, m2, h1, h2, h3⟩ : Both 92 191 [zi (xs (i + 1)), zi (xs (i + 2)), zi (xs (i + 3))] m := st_92 h rfl
  have hu0 : u ≤ 1100 := by omega
  have hu1 : u + 1 ≤ 1100 := by omega
  simp only [↓za_820, ↓zx_nil, ↓zx_cons, ↓zp_li, ↓zp_ll, ↓zp_lr, ↓zq_li0, ↓zq_li1, ↓zq_ll0, ↓zq_ll1, ↓zq_lr0, ↓zq_lr1, ↓zk_0, ↓zk_1n, ↓zk_1i, ↓zk_1r, ↓zk_1l, ↓zk_2, zp_okt, ↓zp_okl, zp_sh0, zp_sh1, zp_psn, zp_pss, ↓zp_ri20, ↓zp_ri21, ↓zp_br, ↓reduceIte, Nat.reduceAdd, Nat.zero_add, Nat.add_zero, Nat.le_refl, Nat.zero_le, ↓zx_aload_0, ↓zx_aload_1, ↓zx_aload_2, ↓zx_iload_3, ↓zx_iconst, ↓zx_bipush, ↓zy_iadd, ↓zx_goto, ↓zy_ic_eq, ↓zy_if_eq, ↓zy_lcmp, ↓zx_iret, eq_self, if_true, if_false, ↓zys_1 (i := i) (show i + 1 < L by omega) hL, ↓zys_2 (i := i) (show i + 2 < L by omega) hL, ↓zys_3 (i := i) (show i + 3 < L by omega) hL, ↓zys_4 (i := i) (show i + 4 < L by omega) hL, ↓zys_5 (i := i) (show i + 5 < L by omega) hL, ↓zys_6 (i := i) (show i + 6 < L by omega) hL, ↓zyc_92, ↓zyc_191, ↓h1, ↓h2, hu0, hu1, hu]
  exact K m2 _ h3 (by omega)
set_option maxRecDepth 100000 in
set_option maxHeartbeats 4000000 in
theorem lw_863 (hi : i + 7 ≤ L) (hL : L ≤ 3584) (hu : u + 2 ≤ 1100) (h : Iv m (z_g m 1)) (K : lwK L xs i u) : zA L xs 863 [some (zr (some (34, 1, 0))), some (zr (some (5, 0, 0))), some (zr (some (6, 1, 0))), some (zi (nI i))] [] m u := by
  obtain ⟨v, m1, m2, h1, h2, h3⟩ : Both 93 192 [zi (xs (i + 1)), zi (xs (i + 2)), zi (xs (i + 3))] m := st_93 h rfl
  have hu0 : u ≤ 1100 := by omega
  have hu1 : u + 1 ≤ 1100 := by omega
  simp only [↓za_863, ↓zx_nil, ↓zx_cons, ↓zp_li, ↓zp_ll, ↓zp_lr, ↓zq_li0, ↓zq_li1, ↓zq_ll0, ↓zq_ll1, ↓zq_lr0, ↓zq_lr1, ↓zk_0, ↓zk_1n, ↓zk_1i, ↓zk_1r, ↓zk_1l, ↓zk_2, zp_okt, ↓zp_okl, zp_sh0, zp_sh1, zp_psn, zp_pss, ↓zp_ri20, ↓zp_ri21, ↓zp_br, ↓reduceIte, Nat.reduceAdd, Nat.zero_add, Nat.add_zero, Nat.le_refl, Nat.zero_le, ↓zx_aload_0, ↓zx_aload_1, ↓zx_aload_2, ↓zx_iload_3, ↓zx_iconst, ↓zx_bipush, ↓zy_iadd, ↓zx_goto, ↓zy_ic_eq, ↓zy_if_eq, ↓zy_lcmp, ↓zx_iret, eq_self, if_true, if_false, ↓zys_1 (i := i) (show i + 1 < L by omega) hL, ↓zys_2 (i := i) (show i + 2 < L by omega) hL, ↓zys_3 (i := i) (show i + 3 < L by omega) hL, ↓zys_4 (i := i) (show i + 4 < L by omega) hL, ↓zys_5 (i := i) (show i + 5 < L by omega) hL, ↓zys_6 (i := i) (show i + 6 < L by omega) hL, ↓zyc_93, ↓zyc_192, ↓h1, ↓h2, hu0, hu1, hu]
  exact K m2 _ h3 (by omega)
set_option maxRecDepth 100000 in
set_option maxHeartbeats 4000000 in
theorem lw_906 (hi : i + 7 ≤ L) (hL : L ≤ 3584) (hu : u + 2 ≤ 1100) (h : Iv m (z_g m 1)) (K : lwK L xs i u) : zA L xs 906 [some (zr (some (34, 1, 0))), some (zr (some (5, 0, 0))), some (zr (some (6, 1, 0))), some (zi (nI i))] [] m u := by
  obtain ⟨v, m1, m2, h1, h2, h3⟩ : Both 94 193 [zi (xs (i + 1)), zi (xs (i + 2))] m := st_94 h rfl
  have hu0 : u ≤ 1100 := by omega
  have hu1 : u + 1 ≤ 1100 := by omega
  simp only [↓za_906, ↓zx_nil, ↓zx_cons, ↓zp_li, ↓zp_ll, ↓zp_lr, ↓zq_li0, ↓zq_li1, ↓zq_ll0, ↓zq_ll1, ↓zq_lr0, ↓zq_lr1, ↓zk_0, ↓zk_1n, ↓zk_1i, ↓zk_1r, ↓zk_1l, ↓zk_2, zp_okt, ↓zp_okl, zp_sh0, zp_sh1, zp_psn, zp_pss, ↓zp_ri20, ↓zp_ri21, ↓zp_br, ↓reduceIte, Nat.reduceAdd, Nat.zero_add, Nat.add_zero, Nat.le_refl, Nat.zero_le, ↓zx_aload_0, ↓zx_aload_1, ↓zx_aload_2, ↓zx_iload_3, ↓zx_iconst, ↓zx_bipush, ↓zy_iadd, ↓zx_goto, ↓zy_ic_eq, ↓zy_if_eq, ↓zy_lcmp, ↓zx_iret, eq_self, if_true, if_false, ↓zys_1 (i := i) (show i + 1 < L by omega) hL, ↓zys_2 (i := i) (show i + 2 < L by omega) hL, ↓zys_3 (i := i) (show i + 3 < L by omega) hL, ↓zys_4 (i := i) (show i + 4 < L by omega) hL, ↓zys_5 (i := i) (show i + 5 < L by omega) hL, ↓zys_6 (i := i) (show i + 6 < L by omega) hL, ↓zyc_94, ↓zyc_193, ↓h1, ↓h2, hu0, hu1, hu]
  exact K m2 _ h3 (by omega)
set_option maxRecDepth 100000 in
set_option maxHeartbeats 4000000 in
theorem lw_939 (hi : i + 7 ≤ L) (hL : L ≤ 3584) (hu : u + 2 ≤ 1100) (h : Iv m (z_g m 1)) (K : lwK L xs i u) : zA L xs 939 [some (zr (some (34, 1, 0))), some (zr (some (5, 0, 0))), some (zr (some (6, 1, 0))), some (zi (nI i))] [] m u := by
  obtain ⟨v, m1, m2, h1, h2, h3⟩ : Both 95 194 [zi (xs (i + 1)), zi (xs (i + 2))] m := st_95 h rfl
  have hu0 : u ≤ 1100 := by omega
  have hu1 : u + 1 ≤ 1100 := by omega
  simp only [↓za_939, ↓zx_nil, ↓zx_cons, ↓zp_li, ↓zp_ll, ↓zp_lr, ↓zq_li0, ↓zq_li1, ↓zq_ll0, ↓zq_ll1, ↓zq_lr0, ↓zq_lr1, ↓zk_0, ↓zk_1n, ↓zk_1i, ↓zk_1r, ↓zk_1l, ↓zk_2, zp_okt, ↓zp_okl, zp_sh0, zp_sh1, zp_psn, zp_pss, ↓zp_ri20, ↓zp_ri21, ↓zp_br, ↓reduceIte, Nat.reduceAdd, Nat.zero_add, Nat.add_zero, Nat.le_refl, Nat.zero_le, ↓zx_aload_0, ↓zx_aload_1, ↓zx_aload_2, ↓zx_iload_3, ↓zx_iconst, ↓zx_bipush, ↓zy_iadd, ↓zx_goto, ↓zy_ic_eq, ↓zy_if_eq, ↓zy_lcmp, ↓zx_iret, eq_self, if_true, if_false, ↓zys_1 (i := i) (show i + 1 < L by omega) hL, ↓zys_2 (i := i) (show i + 2 < L by omega) hL, ↓zys_3 (i := i) (show i + 3 < L by omega) hL, ↓zys_4 (i := i) (show i + 4 < L by omega) hL, ↓zys_5 (i := i) (show i + 5 < L by omega) hL, ↓zys_6 (i := i) (show i + 6 < L by omega) hL, ↓zyc_95, ↓zyc_194, ↓h1, ↓h2, hu0, hu1, hu]
  exact K m2 _ h3 (by omega)
set_option maxRecDepth 100000 in
set_option maxHeartbeats 4000000 in
theorem lw_972 (hi : i + 7 ≤ L) (hL : L ≤ 3584) (hu : u + 2 ≤ 1100) (h : Iv m (z_g m 1)) (K : lwK L xs i u) : zA L xs 972 [some (zr (some (34, 1, 0))), some (zr (some (5, 0, 0))), some (zr (some (6, 1, 0))), some (zi (nI i))] [] m u := by
  obtain ⟨v, m1, m2, h1, h2, h3⟩ : Both 96 195 [zi (xs (i + 1))] m := st_96 h rfl
  have hu0 : u ≤ 1100 := by omega
  have hu1 : u + 1 ≤ 1100 := by omega
  simp only [↓za_972, ↓zx_nil, ↓zx_cons, ↓zp_li, ↓zp_ll, ↓zp_lr, ↓zq_li0, ↓zq_li1, ↓zq_ll0, ↓zq_ll1, ↓zq_lr0, ↓zq_lr1, ↓zk_0, ↓zk_1n, ↓zk_1i, ↓zk_1r, ↓zk_1l, ↓zk_2, zp_okt, ↓zp_okl, zp_sh0, zp_sh1, zp_psn, zp_pss, ↓zp_ri20, ↓zp_ri21, ↓zp_br, ↓reduceIte, Nat.reduceAdd, Nat.zero_add, Nat.add_zero, Nat.le_refl, Nat.zero_le, ↓zx_aload_0, ↓zx_aload_1, ↓zx_aload_2, ↓zx_iload_3, ↓zx_iconst, ↓zx_bipush, ↓zy_iadd, ↓zx_goto, ↓zy_ic_eq, ↓zy_if_eq, ↓zy_lcmp, ↓zx_iret, eq_self, if_true, if_false, ↓zys_1 (i := i) (show i + 1 < L by omega) hL, ↓zys_2 (i := i) (show i + 2 < L by omega) hL, ↓zys_3 (i := i) (show i + 3 < L by omega) hL, ↓zys_4 (i := i) (show i + 4 < L by omega) hL, ↓zys_5 (i := i) (show i + 5 < L by omega) hL, ↓zys_6 (i := i) (show i + 6 < L by omega) hL, ↓zyc_96, ↓zyc_195, ↓h1, ↓h2, hu0, hu1, hu]
  exact K m2 _ h3 (by omega)
set_option maxRecDepth 100000 in
set_option maxHeartbeats 4000000 in
theorem lw_995 (hi : i + 7 ≤ L) (hL : L ≤ 3584) (hu : u + 2 ≤ 1100) (h : Iv m (z_g m 1)) (K : lwK L xs i u) : zA L xs 995 [some (zr (some (34, 1, 0))), some (zr (some (5, 0, 0))), some (zr (some (6, 1, 0))), some (zi (nI i))] [] m u := by
  obtain ⟨v, m1, m2, h1, h2, h3⟩ : Both 97 125 [] m := st_97 h rfl
  have hu0 : u ≤ 1100 := by omega
  have hu1 : u + 1 ≤ 1100 := by omega
  simp only [↓za_995, ↓zx_nil, ↓zx_cons, ↓zp_li, ↓zp_ll, ↓zp_lr, ↓zq_li0, ↓zq_li1, ↓zq_ll0, ↓zq_ll1, ↓zq_lr0, ↓zq_lr1, ↓zk_0, ↓zk_1n, ↓zk_1i, ↓zk_1r, ↓zk_1l, ↓zk_2, zp_okt, ↓zp_okl, zp_sh0, zp_sh1, zp_psn, zp_pss, ↓zp_ri20, ↓zp_ri21, ↓zp_br, ↓reduceIte, Nat.reduceAdd, Nat.zero_add, Nat.add_zero, Nat.le_refl, Nat.zero_le, ↓zx_aload_0, ↓zx_aload_1, ↓zx_aload_2, ↓zx_iload_3, ↓zx_iconst, ↓zx_bipush, ↓zy_iadd, ↓zx_goto, ↓zy_ic_eq, ↓zy_if_eq, ↓zy_lcmp, ↓zx_iret, eq_self, if_true, if_false, ↓zys_1 (i := i) (show i + 1 < L by omega) hL, ↓zys_2 (i := i) (show i + 2 < L by omega) hL, ↓zys_3 (i := i) (show i + 3 < L by omega) hL, ↓zys_4 (i := i) (show i + 4 < L by omega) hL, ↓zys_5 (i := i) (show i + 5 < L by omega) hL, ↓zys_6 (i := i) (show i + 6 < L by omega) hL, ↓zyc_97, ↓zyc_125, ↓h1, ↓h2, hu0, hu1, hu]
  exact K m2 _ h3 (by omega)
set_option maxRecDepth 100000 in
set_option maxHeartbeats 4000000 in
theorem lw_1008 (hi : i + 7 ≤ L) (hL : L ≤ 3584) (hu : u + 2 ≤ 1100) (h : Iv m (z_g m 1)) (K : lwK L xs i u) : zA L xs 1008 [some (zr (some (34, 1, 0))), some (zr (some (5, 0, 0))), some (zr (some (6, 1, 0))), some (zi (nI i))] [] m u := by
  obtain ⟨v, m1, m2, h1, h2, h3⟩ : Both 98 129 [zi (xs (i + 1))] m := st_98 h rfl
  have hu0 : u ≤ 1100 := by omega
  have hu1 : u + 1 ≤ 1100 := by omega
  simp only [↓za_1008, ↓zx_nil, ↓zx_cons, ↓zp_li, ↓zp_ll, ↓zp_lr, ↓zq_li0, ↓zq_li1, ↓zq_ll0, ↓zq_ll1, ↓zq_lr0, ↓zq_lr1, ↓zk_0, ↓zk_1n, ↓zk_1i, ↓zk_1r, ↓zk_1l, ↓zk_2, zp_okt, ↓zp_okl, zp_sh0, zp_sh1, zp_psn, zp_pss, ↓zp_ri20, ↓zp_ri21, ↓zp_br, ↓reduceIte, Nat.reduceAdd, Nat.zero_add, Nat.add_zero, Nat.le_refl, Nat.zero_le, ↓zx_aload_0, ↓zx_aload_1, ↓zx_aload_2, ↓zx_iload_3, ↓zx_iconst, ↓zx_bipush, ↓zy_iadd, ↓zx_goto, ↓zy_ic_eq, ↓zy_if_eq, ↓zy_lcmp, ↓zx_iret, eq_self, if_true, if_false, ↓zys_1 (i := i) (show i + 1 < L by omega) hL, ↓zys_2 (i := i) (show i + 2 < L by omega) hL, ↓zys_3 (i := i) (show i + 3 < L by omega) hL, ↓zys_4 (i := i) (show i + 4 < L by omega) hL, ↓zys_5 (i := i) (show i + 5 < L by omega) hL, ↓zys_6 (i := i) (show i + 6 < L by omega) hL, ↓zyc_98, ↓zyc_129, ↓h1, ↓h2, hu0, hu1, hu]
  exact K m2 _ h3 (by omega)
set_option maxRecDepth 100000 in
set_option maxHeartbeats 4000000 in
theorem lw_1031 (hi : i + 7 ≤ L) (hL : L ≤ 3584) (hu : u + 2 ≤ 1100) (h : Iv m (z_g m 1)) (K : lwK L xs i u) : zA L xs 1031 [some (zr (some (34, 1, 0))), some (zr (some (5, 0, 0))), some (zr (some (6, 1, 0))), some (zi (nI i))] [] m u := by
  obtain ⟨v, m1, m2, h1, h2, h3⟩ : Both 99 132 [zi (xs (i + 1))] m := st_99 h rfl
  have hu0 : u ≤ 1100 := by omega
  have hu1 : u + 1 ≤ 1100 := by omega
  simp only [↓za_1031, ↓zx_nil, ↓zx_cons, ↓zp_li, ↓zp_ll, ↓zp_lr, ↓zq_li0, ↓zq_li1, ↓zq_ll0, ↓zq_ll1, ↓zq_lr0, ↓zq_lr1, ↓zk_0, ↓zk_1n, ↓zk_1i, ↓zk_1r, ↓zk_1l, ↓zk_2, zp_okt, ↓zp_okl, zp_sh0, zp_sh1, zp_psn, zp_pss, ↓zp_ri20, ↓zp_ri21, ↓zp_br, ↓reduceIte, Nat.reduceAdd, Nat.zero_add, Nat.add_zero, Nat.le_refl, Nat.zero_le, ↓zx_aload_0, ↓zx_aload_1, ↓zx_aload_2, ↓zx_iload_3, ↓zx_iconst, ↓zx_bipush, ↓zy_iadd, ↓zx_goto, ↓zy_ic_eq, ↓zy_if_eq, ↓zy_lcmp, ↓zx_iret, eq_self, if_true, if_false, ↓zys_1 (i := i) (show i + 1 < L by omega) hL, ↓zys_2 (i := i) (show i + 2 < L by omega) hL, ↓zys_3 (i := i) (show i + 3 < L by omega) hL, ↓zys_4 (i := i) (show i + 4 < L by omega) hL, ↓zys_5 (i := i) (show i + 5 < L by omega) hL, ↓zys_6 (i := i) (show i + 6 < L by omega) hL, ↓zyc_99, ↓zyc_132, ↓h1, ↓h2, hu0, hu1, hu]
  exact K m2 _ h3 (by omega)
set_option maxRecDepth 100000 in
set_option maxHeartbeats 4000000 in
theorem lw_1054 (hi : i + 7 ≤ L) (hL : L ≤ 3584) (hu : u + 2 ≤ 1100) (h : Iv m (z_g m 1)) (K : lwK L xs i u) : zA L xs 1054 [some (zr (some (34, 1, 0))), some (zr (some (5, 0, 0))), some (zr (some (6, 1, 0))), some (zi (nI i))] [] m u := by
  obtain ⟨v, m1, m2, h1, h2, h3⟩ : Both 100 198 [zi (xs (i + 1)), zi (xs (i + 2))] m := st_100 h rfl
  have hu0 : u ≤ 1100 := by omega
  have hu1 : u + 1 ≤ 1100 := by omega
  simp only [↓za_1054, ↓zx_nil, ↓zx_cons, ↓zp_li, ↓zp_ll, ↓zp_lr, ↓zq_li0, ↓zq_li1, ↓zq_ll0, ↓zq_ll1, ↓zq_lr0, ↓zq_lr1, ↓zk_0, ↓zk_1n, ↓zk_1i, ↓zk_1r, ↓zk_1l, ↓zk_2, zp_okt, ↓zp_okl, zp_sh0, zp_sh1, zp_psn, zp_pss, ↓zp_ri20, ↓zp_ri21, ↓zp_br, ↓reduceIte, Nat.reduceAdd, Nat.zero_add, Nat.add_zero, Nat.le_refl, Nat.zero_le, ↓zx_aload_0, ↓zx_aload_1, ↓zx_aload_2, ↓zx_iload_3, ↓zx_iconst, ↓zx_bipush, ↓zy_iadd, ↓zx_goto, ↓zy_ic_eq, ↓zy_if_eq, ↓zy_lcmp, ↓zx_iret, eq_self, if_true, if_false, ↓zys_1 (i := i) (show i + 1 < L by omega) hL, ↓zys_2 (i := i) (show i + 2 < L by omega) hL, ↓zys_3 (i := i) (show i + 3 < L by omega) hL, ↓zys_4 (i := i) (show i + 4 < L by omega) hL, ↓zys_5 (i := i) (show i + 5 < L by omega) hL, ↓zys_6 (i := i) (show i + 6 < L by omega) hL, ↓zyc_100, ↓zyc_198, ↓h1, ↓h2, hu0, hu1, hu]
  exact K m2 _ h3 (by omega)
set_option maxRecDepth 100000 in
set_option maxHeartbeats 4000000 in
theorem lw_1087 (hi : i + 7 ≤ L) (hL : L ≤ 3584) (hu : u + 2 ≤ 1100) (h : Iv m (z_g m 1)) (K : lwK L xs i u) : zA L xs 1087 [some (zr (some (34, 1, 0))), some (zr (some (5, 0, 0))), some (zr (some (6, 1, 0))), some (zi (nI i))] [] m u := by
  obtain ⟨v, m1, m2, h1, h2, h3⟩ : BothL 101 199 [zi (xs (i + 1)), zi (xs (i + 2))] m := st_101 h rfl
  have hu0 : u ≤ 1100 := by omega
  have hu1 : u + 1 ≤ 1100 := by omega
  have lc : (lg_cmp v v = 0) = True := eq_true ((lg_cmp_eq v v).mpr rfl)
  simp only [↓za_1087, ↓zx_nil, ↓zx_cons, ↓zp_li, ↓zp_ll, ↓zp_lr, ↓zq_li0, ↓zq_li1, ↓zq_ll0, ↓zq_ll1, ↓zq_lr0, ↓zq_lr1, ↓zk_0, ↓zk_1n, ↓zk_1i, ↓zk_1r, ↓zk_1l, ↓zk_2, zp_okt, ↓zp_okl, zp_sh0, zp_sh1, zp_psn, zp_pss, ↓zp_ri20, ↓zp_ri21, ↓zp_br, ↓reduceIte, Nat.reduceAdd, Nat.zero_add, Nat.add_zero, Nat.le_refl, Nat.zero_le, ↓zx_aload_0, ↓zx_aload_1, ↓zx_aload_2, ↓zx_iload_3, ↓zx_iconst, ↓zx_bipush, ↓zy_iadd, ↓zx_goto, ↓zy_ic_eq, ↓zy_if_eq, ↓zy_lcmp, ↓zx_iret, eq_self, if_true, if_false, ↓zys_1 (i := i) (show i + 1 < L by omega) hL, ↓zys_2 (i := i) (show i + 2 < L by omega) hL, ↓zys_3 (i := i) (show i + 3 < L by omega) hL, ↓zys_4 (i := i) (show i + 4 < L by omega) hL, ↓zys_5 (i := i) (show i + 5 < L by omega) hL, ↓zys_6 (i := i) (show i + 6 < L by omega) hL, ↓zyc_101, ↓zyc_199, ↓h1, ↓h2, hu0, hu1, hu, lc]
  exact K m2 _ h3 (by omega)
set_option maxRecDepth 100000 in
set_option maxHeartbeats 4000000 in
theorem lw_1121 (hi : i + 7 ≤ L) (hL : L ≤ 3584) (hu : u + 2 ≤ 1100) (h : Iv m (z_g m 1)) (K : lwK L xs i u) : zA L xs 1121 [some (zr (some (34, 1, 0))), some (zr (some (5, 0, 0))), some (zr (some (6, 1, 0))), some (zi (nI i))] [] m u := by
  obtain ⟨v, m1, m2, h1, h2, h3⟩ : Both 102 200 [zi (xs (i + 1)), zi (xs (i + 2))] m := st_102 h rfl
  have hu0 : u ≤ 1100 := by omega
  have hu1 : u + 1 ≤ 1100 := by omega
  simp only [↓za_1121, ↓zx_nil, ↓zx_cons, ↓zp_li, ↓zp_ll, ↓zp_lr, ↓zq_li0, ↓zq_li1, ↓zq_ll0, ↓zq_ll1, ↓zq_lr0, ↓zq_lr1, ↓zk_0, ↓zk_1n, ↓zk_1i, ↓zk_1r, ↓zk_1l, ↓zk_2, zp_okt, ↓zp_okl, zp_sh0, zp_sh1, zp_psn, zp_pss, ↓zp_ri20, ↓zp_ri21, ↓zp_br, ↓reduceIte, Nat.reduceAdd, Nat.zero_add, Nat.add_zero, Nat.le_refl, Nat.zero_le, ↓zx_aload_0, ↓zx_aload_1, ↓zx_aload_2, ↓zx_iload_3, ↓zx_iconst, ↓zx_bipush, ↓zy_iadd, ↓zx_goto, ↓zy_ic_eq, ↓zy_if_eq, ↓zy_lcmp, ↓zx_iret, eq_self, if_true, if_false, ↓zys_1 (i := i) (show i + 1 < L by omega) hL, ↓zys_2 (i := i) (show i + 2 < L by omega) hL, ↓zys_3 (i := i) (show i + 3 < L by omega) hL, ↓zys_4 (i := i) (show i + 4 < L by omega) hL, ↓zys_5 (i := i) (show i + 5 < L by omega) hL, ↓zys_6 (i := i) (show i + 6 < L by omega) hL, ↓zyc_102, ↓zyc_200, ↓h1, ↓h2, hu0, hu1, hu]
  exact K m2 _ h3 (by omega)
set_option maxRecDepth 100000 in
set_option maxHeartbeats 4000000 in
theorem lw_1154 (hi : i + 7 ≤ L) (hL : L ≤ 3584) (hu : u + 2 ≤ 1100) (h : Iv m (z_g m 1)) (K : lwK L xs i u) : zA L xs 1154 [some (zr (some (34, 1, 0))), some (zr (some (5, 0, 0))), some (zr (some (6, 1, 0))), some (zi (nI i))] [] m u := by
  obtain ⟨v, m1, m2, h1, h2, h3⟩ : Both 103 201 [zi (xs (i + 1)), zi (xs (i + 2))] m := st_103 h rfl
  have hu0 : u ≤ 1100 := by omega
  have hu1 : u + 1 ≤ 1100 := by omega
  simp only [↓za_1154, ↓zx_nil, ↓zx_cons, ↓zp_li, ↓zp_ll, ↓zp_lr, ↓zq_li0, ↓zq_li1, ↓zq_ll0, ↓zq_ll1, ↓zq_lr0, ↓zq_lr1, ↓zk_0, ↓zk_1n, ↓zk_1i, ↓zk_1r, ↓zk_1l, ↓zk_2, zp_okt, ↓zp_okl, zp_sh0, zp_sh1, zp_psn, zp_pss, ↓zp_ri20, ↓zp_ri21, ↓zp_br, ↓reduceIte, Nat.reduceAdd, Nat.zero_add, Nat.add_zero, Nat.le_refl, Nat.zero_le, ↓zx_aload_0, ↓zx_aload_1, ↓zx_aload_2, ↓zx_iload_3, ↓zx_iconst, ↓zx_bipush, ↓zy_iadd, ↓zx_goto, ↓zy_ic_eq, ↓zy_if_eq, ↓zy_lcmp, ↓zx_iret, eq_self, if_true, if_false, ↓zys_1 (i := i) (show i + 1 < L by omega) hL, ↓zys_2 (i := i) (show i + 2 < L by omega) hL, ↓zys_3 (i := i) (show i + 3 < L by omega) hL, ↓zys_4 (i := i) (show i + 4 < L by omega) hL, ↓zys_5 (i := i) (show i + 5 < L by omega) hL, ↓zys_6 (i := i) (show i + 6 < L by omega) hL, ↓zyc_103, ↓zyc_201, ↓h1, ↓h2, hu0, hu1, hu]
  exact K m2 _ h3 (by omega)
set_option maxRecDepth 100000 in
set_option maxHeartbeats 4000000 in
theorem lw_1187 (hi : i + 7 ≤ L) (hL : L ≤ 3584) (hu : u + 2 ≤ 1100) (h : Iv m (z_g m 1)) (K : lwK L xs i u) : zA L xs 1187 [some (zr (some (34, 1, 0))), some (zr (some (5, 0, 0))), some (zr (some (6, 1, 0))), some (zi (nI i))] [] m u := by
  obtain ⟨v, m1, m2, h1, h2, h3⟩ : BothL 104 202 [zi (xs (i + 1)), zi (xs (i + 2))] m := st_104 h rfl
  have hu0 : u ≤ 1100 := by omega
  have hu1 : u + 1 ≤ 1100 := by omega
  have lc : (lg_cmp v v = 0) = True := eq_true ((lg_cmp_eq v v).mpr rfl)
  simp only [↓za_1187, ↓zx_nil, ↓zx_cons, ↓zp_li, ↓zp_ll, ↓zp_lr, ↓zq_li0, ↓zq_li1, ↓zq_ll0, ↓zq_ll1, ↓zq_lr0, ↓zq_lr1, ↓zk_0, ↓zk_1n, ↓zk_1i, ↓zk_1r, ↓zk_1l, ↓zk_2, zp_okt, ↓zp_okl, zp_sh0, zp_sh1, zp_psn, zp_pss, ↓zp_ri20, ↓zp_ri21, ↓zp_br, ↓reduceIte, Nat.reduceAdd, Nat.zero_add, Nat.add_zero, Nat.le_refl, Nat.zero_le, ↓zx_aload_0, ↓zx_aload_1, ↓zx_aload_2, ↓zx_iload_3, ↓zx_iconst, ↓zx_bipush, ↓zy_iadd, ↓zx_goto, ↓zy_ic_eq, ↓zy_if_eq, ↓zy_lcmp, ↓zx_iret, eq_self, if_true, if_false, ↓zys_1 (i := i) (show i + 1 < L by omega) hL, ↓zys_2 (i := i) (show i + 2 < L by omega) hL, ↓zys_3 (i := i) (show i + 3 < L by omega) hL, ↓zys_4 (i := i) (show i + 4 < L by omega) hL, ↓zys_5 (i := i) (show i + 5 < L by omega) hL, ↓zys_6 (i := i) (show i + 6 < L by omega) hL, ↓zyc_104, ↓zyc_202, ↓h1, ↓h2, hu0, hu1, hu, lc]
  exact K m2 _ h3 (by omega)
set_option maxRecDepth 100000 in
set_option maxHeartbeats 4000000 in
theorem lw_1221 (hi : i + 7 ≤ L) (hL : L ≤ 3584) (hu : u + 2 ≤ 1100) (h : Iv m (z_g m 1)) (K : lwK L xs i u) : zA L xs 1221 [some (zr (some (34, 1, 0))), some (zr (some (5, 0, 0))), some (zr (some (6, 1, 0))), some (zi (nI i))] [] m u := by
  obtain ⟨v, m1, m2, h1, h2, h3⟩ : Both 105 203 [zi (xs (i + 1)), zi (xs (i + 2))] m := st_105 h rfl
  have hu0 : u ≤ 1100 := by omega
  have hu1 : u + 1 ≤ 1100 := by omega
  simp only [↓za_1221, ↓zx_nil, ↓zx_cons, ↓zp_li, ↓zp_ll, ↓zp_lr, ↓zq_li0, ↓zq_li1, ↓zq_ll0, ↓zq_ll1, ↓zq_lr0, ↓zq_lr1, ↓zk_0, ↓zk_1n, ↓zk_1i, ↓zk_1r, ↓zk_1l, ↓zk_2, zp_okt, ↓zp_okl, zp_sh0, zp_sh1, zp_psn, zp_pss, ↓zp_ri20, ↓zp_ri21, ↓zp_br, ↓reduceIte, Nat.reduceAdd, Nat.zero_add, Nat.add_zero, Nat.le_refl, Nat.zero_le, ↓zx_aload_0, ↓zx_aload_1, ↓zx_aload_2, ↓zx_iload_3, ↓zx_iconst, ↓zx_bipush, ↓zy_iadd, ↓zx_goto, ↓zy_ic_eq, ↓zy_if_eq, ↓zy_lcmp, ↓zx_iret, eq_self, if_true, if_false, ↓zys_1 (i := i) (show i + 1 < L by omega) hL, ↓zys_2 (i := i) (show i + 2 < L by omega) hL, ↓zys_3 (i := i) (show i + 3 < L by omega) hL, ↓zys_4 (i := i) (show i + 4 < L by omega) hL, ↓zys_5 (i := i) (show i + 5 < L by omega) hL, ↓zys_6 (i := i) (show i + 6 < L by omega) hL, ↓zyc_105, ↓zyc_203, ↓h1, ↓h2, hu0, hu1, hu]
  exact K m2 _ h3 (by omega)
set_option maxRecDepth 100000 in
set_option maxHeartbeats 4000000 in
theorem lw_1254 (hi : i + 7 ≤ L) (hL : L ≤ 3584) (hu : u + 2 ≤ 1100) (h : Iv m (z_g m 1)) (K : lwK L xs i u) : zA L xs 1254 [some (zr (some (34, 1, 0))), some (zr (some (5, 0, 0))), some (zr (some (6, 1, 0))), some (zi (nI i))] [] m u := by
  obtain ⟨v, m1, m2, h1, h2, h3⟩ : Both 106 204 [zi (xs (i + 1)), zi (xs (i + 2))] m := st_106 h rfl
  have hu0 : u ≤ 1100 := by omega
  have hu1 : u + 1 ≤ 1100 := by omega
  simp only [↓za_1254, ↓zx_nil, ↓zx_cons, ↓zp_li, ↓zp_ll, ↓zp_lr, ↓zq_li0, ↓zq_li1, ↓zq_ll0, ↓zq_ll1, ↓zq_lr0, ↓zq_lr1, ↓zk_0, ↓zk_1n, ↓zk_1i, ↓zk_1r, ↓zk_1l, ↓zk_2, zp_okt, ↓zp_okl, zp_sh0, zp_sh1, zp_psn, zp_pss, ↓zp_ri20, ↓zp_ri21, ↓zp_br, ↓reduceIte, Nat.reduceAdd, Nat.zero_add, Nat.add_zero, Nat.le_refl, Nat.zero_le, ↓zx_aload_0, ↓zx_aload_1, ↓zx_aload_2, ↓zx_iload_3, ↓zx_iconst, ↓zx_bipush, ↓zy_iadd, ↓zx_goto, ↓zy_ic_eq, ↓zy_if_eq, ↓zy_lcmp, ↓zx_iret, eq_self, if_true, if_false, ↓zys_1 (i := i) (show i + 1 < L by omega) hL, ↓zys_2 (i := i) (show i + 2 < L by omega) hL, ↓zys_3 (i := i) (show i + 3 < L by omega) hL, ↓zys_4 (i := i) (show i + 4 < L by omega) hL, ↓zys_5 (i := i) (show i + 5 < L by omega) hL, ↓zys_6 (i := i) (show i + 6 < L by omega) hL, ↓zyc_106, ↓zyc_204, ↓h1, ↓h2, hu0, hu1, hu]
  exact K m2 _ h3 (by omega)
set_option maxRecDepth 100000 in
set_option maxHeartbeats 4000000 in
theorem lw_1287 (hi : i + 7 ≤ L) (hL : L ≤ 3584) (hu : u + 2 ≤ 1100) (h : Iv m (z_g m 1)) (K : lwK L xs i u) : zA L xs 1287 [some (zr (some (34, 1, 0))), some (zr (some (5, 0, 0))), some (zr (some (6, 1, 0))), some (zi (nI i))] [] m u := by
  obtain ⟨v, m1, m2, h1, h2, h3⟩ : Both 107 205 [zi (xs (i + 1)), zi (xs (i + 2)), zi (xs (i + 3))] m := st_107 h rfl
  have hu0 : u ≤ 1100 := by omega
  have hu1 : u + 1 ≤ 1100 := by omega
  simp only [↓za_1287, ↓zx_nil, ↓zx_cons, ↓zp_li, ↓zp_ll, ↓zp_lr, ↓zq_li0, ↓zq_li1, ↓zq_ll0, ↓zq_ll1, ↓zq_lr0, ↓zq_lr1, ↓zk_0, ↓zk_1n, ↓zk_1i, ↓zk_1r, ↓zk_1l, ↓zk_2, zp_okt, ↓zp_okl, zp_sh0, zp_sh1, zp_psn, zp_pss, ↓zp_ri20, ↓zp_ri21, ↓zp_br, ↓reduceIte, Nat.reduceAdd, Nat.zero_add, Nat.add_zero, Nat.le_refl, Nat.zero_le, ↓zx_aload_0, ↓zx_aload_1, ↓zx_aload_2, ↓zx_iload_3, ↓zx_iconst, ↓zx_bipush, ↓zy_iadd, ↓zx_goto, ↓zy_ic_eq, ↓zy_if_eq, ↓zy_lcmp, ↓zx_iret, eq_self, if_true, if_false, ↓zys_1 (i := i) (show i + 1 < L by omega) hL, ↓zys_2 (i := i) (show i + 2 < L by omega) hL, ↓zys_3 (i := i) (show i + 3 < L by omega) hL, ↓zys_4 (i := i) (show i + 4 < L by omega) hL, ↓zys_5 (i := i) (show i + 5 < L by omega) hL, ↓zys_6 (i := i) (show i + 6 < L by omega) hL, ↓zyc_107, ↓zyc_205, ↓h1, ↓h2, hu0, hu1, hu]
  exact K m2 _ h3 (by omega)
set_option maxRecDepth 100000 in
set_option maxHeartbeats 4000000 in
theorem lw_1330 (hi : i + 7 ≤ L) (hL : L ≤ 3584) (hu : u + 2 ≤ 1100) (h : Iv m (z_g m 1)) (K : lwK L xs i u) : zA L xs 1330 [some (zr (some (34, 1, 0))), some (zr (some (5, 0, 0))), some (zr (some (6, 1, 0))), some (zi (nI i))] [] m u := by
  obtain ⟨v, m1, m2, h1, h2, h3⟩ : Both 108 206 [zi (xs (i + 1)), zi (xs (i + 2))] m := st_108 h rfl
  have hu0 : u ≤ 1100 := by omega
  have hu1 : u + 1 ≤ 1100 := by omega
  simp only [↓za_1330, ↓zx_nil, ↓zx_cons, ↓zp_li, ↓zp_ll, ↓zp_lr, ↓zq_li0, ↓zq_li1, ↓zq_ll0, ↓zq_ll1, ↓zq_lr0, ↓zq_lr1, ↓zk_0, ↓zk_1n, ↓zk_1i, ↓zk_1r, ↓zk_1l, ↓zk_2, zp_okt, ↓zp_okl, zp_sh0, zp_sh1, zp_psn, zp_pss, ↓zp_ri20, ↓zp_ri21, ↓zp_br, ↓reduceIte, Nat.reduceAdd, Nat.zero_add, Nat.add_zero, Nat.le_refl, Nat.zero_le, ↓zx_aload_0, ↓zx_aload_1, ↓zx_aload_2, ↓zx_iload_3, ↓zx_iconst, ↓zx_bipush, ↓zy_iadd, ↓zx_goto, ↓zy_ic_eq, ↓zy_if_eq, ↓zy_lcmp, ↓zx_iret, eq_self, if_true, if_false, ↓zys_1 (i := i) (show i + 1 < L by omega) hL, ↓zys_2 (i := i) (show i + 2 < L by omega) hL, ↓zys_3 (i := i) (show i + 3 < L by omega) hL, ↓zys_4 (i := i) (show i + 4 < L by omega) hL, ↓zys_5 (i := i) (show i + 5 < L by omega) hL, ↓zys_6 (i := i) (show i + 6 < L by omega) hL, ↓zyc_108, ↓zyc_206, ↓h1, ↓h2, hu0, hu1, hu]
  exact K m2 _ h3 (by omega)
set_option maxRecDepth 100000 in
set_option maxHeartbeats 4000000 in
theorem lw_1363 (hi : i + 7 ≤ L) (hL : L ≤ 3584) (hu : u + 2 ≤ 1100) (h : Iv m (z_g m 1)) (K : lwK L xs i u) : zA L xs 1363 [some (zr (some (34, 1, 0))), some (zr (some (5, 0, 0))), some (zr (some (6, 1, 0))), some (zi (nI i))] [] m u := by
  obtain ⟨v, m1, m2, h1, h2, h3⟩ : Both 109 210 [zi (xs (i + 1)), zi (xs (i + 2)), zi (xs (i + 3))] m := st_109 h rfl
  have hu0 : u ≤ 1100 := by omega
  have hu1 : u + 1 ≤ 1100 := by omega
  simp only [↓za_1363, ↓zx_nil, ↓zx_cons, ↓zp_li, ↓zp_ll, ↓zp_lr, ↓zq_li0, ↓zq_li1, ↓zq_ll0, ↓zq_ll1, ↓zq_lr0, ↓zq_lr1, ↓zk_0, ↓zk_1n, ↓zk_1i, ↓zk_1r, ↓zk_1l, ↓zk_2, zp_okt, ↓zp_okl, zp_sh0, zp_sh1, zp_psn, zp_pss, ↓zp_ri20, ↓zp_ri21, ↓zp_br, ↓reduceIte, Nat.reduceAdd, Nat.zero_add, Nat.add_zero, Nat.le_refl, Nat.zero_le, ↓zx_aload_0, ↓zx_aload_1, ↓zx_aload_2, ↓zx_iload_3, ↓zx_iconst, ↓zx_bipush, ↓zy_iadd, ↓zx_goto, ↓zy_ic_eq, ↓zy_if_eq, ↓zy_lcmp, ↓zx_iret, eq_self, if_true, if_false, ↓zys_1 (i := i) (show i + 1 < L by omega) hL, ↓zys_2 (i := i) (show i + 2 < L by omega) hL, ↓zys_3 (i := i) (show i + 3 < L by omega) hL, ↓zys_4 (i := i) (show i + 4 < L by omega) hL, ↓zys_5 (i := i) (show i + 5 < L by omega) hL, ↓zys_6 (i := i) (show i + 6 < L by omega) hL, ↓zyc_109, ↓zyc_210, ↓h1, ↓h2, hu0, hu1, hu]
  exact K m2 _ h3 (by omega)
set_option maxRecDepth 100000 in
set_option maxHeartbeats 4000000 in
theorem lw_1406 (hi : i + 7 ≤ L) (hL : L ≤ 3584) (hu : u + 2 ≤ 1100) (h : Iv m (z_g m 1)) (K : lwK L xs i u) : zA L xs 1406 [some (zr (some (34, 1, 0))), some (zr (some (5, 0, 0))), some (zr (some (6, 1, 0))), some (zi (nI i))] [] m u := by
  obtain ⟨v, m1, m2, h1, h2, h3⟩ : Both 110 211 [zi (xs (i + 1)), zi (xs (i + 2)), zi (xs (i + 3))] m := st_110 h rfl
  have hu0 : u ≤ 1100 := by omega
  have hu1 : u + 1 ≤ 1100 := by omega
  simp only [↓za_1406, ↓zx_nil, ↓zx_cons, ↓zp_li, ↓zp_ll, ↓zp_lr, ↓zq_li0, ↓zq_li1, ↓zq_ll0, ↓zq_ll1, ↓zq_lr0, ↓zq_lr1, ↓zk_0, ↓zk_1n, ↓zk_1i, ↓zk_1r, ↓zk_1l, ↓zk_2, zp_okt, ↓zp_okl, zp_sh0, zp_sh1, zp_psn, zp_pss, ↓zp_ri20, ↓zp_ri21, ↓zp_br, ↓reduceIte, Nat.reduceAdd, Nat.zero_add, Nat.add_zero, Nat.le_refl, Nat.zero_le, ↓zx_aload_0, ↓zx_aload_1, ↓zx_aload_2, ↓zx_iload_3, ↓zx_iconst, ↓zx_bipush, ↓zy_iadd, ↓zx_goto, ↓zy_ic_eq, ↓zy_if_eq, ↓zy_lcmp, ↓zx_iret, eq_self, if_true, if_false, ↓zys_1 (i := i) (show i + 1 < L by omega) hL, ↓zys_2 (i := i) (show i + 2 < L by omega) hL, ↓zys_3 (i := i) (show i + 3 < L by omega) hL, ↓zys_4 (i := i) (show i + 4 < L by omega) hL, ↓zys_5 (i := i) (show i + 5 < L by omega) hL, ↓zys_6 (i := i) (show i + 6 < L by omega) hL, ↓zyc_110, ↓zyc_211, ↓h1, ↓h2, hu0, hu1, hu]
  exact K m2 _ h3 (by omega)
set_option maxRecDepth 100000 in
set_option maxHeartbeats 4000000 in
theorem lw_1449 (hi : i + 7 ≤ L) (hL : L ≤ 3584) (hu : u + 2 ≤ 1100) (h : Iv m (z_g m 1)) (K : lwK L xs i u) : zA L xs 1449 [some (zr (some (34, 1, 0))), some (zr (some (5, 0, 0))), some (zr (some (6, 1, 0))), some (zi (nI i))] [] m u := by
  obtain ⟨v, m1, m2, h1, h2, h3⟩ : Both 111 212 [zi (xs (i + 1)), zi (xs (i + 2))] m := st_111 h rfl
  have hu0 : u ≤ 1100 := by omega
  have hu1 : u + 1 ≤ 1100 := by omega
  simp only [↓za_1449, ↓zx_nil, ↓zx_cons, ↓zp_li, ↓zp_ll, ↓zp_lr, ↓zq_li0, ↓zq_li1, ↓zq_ll0, ↓zq_ll1, ↓zq_lr0, ↓zq_lr1, ↓zk_0, ↓zk_1n, ↓zk_1i, ↓zk_1r, ↓zk_1l, ↓zk_2, zp_okt, ↓zp_okl, zp_sh0, zp_sh1, zp_psn, zp_pss, ↓zp_ri20, ↓zp_ri21, ↓zp_br, ↓reduceIte, Nat.reduceAdd, Nat.zero_add, Nat.add_zero, Nat.le_refl, Nat.zero_le, ↓zx_aload_0, ↓zx_aload_1, ↓zx_aload_2, ↓zx_iload_3, ↓zx_iconst, ↓zx_bipush, ↓zy_iadd, ↓zx_goto, ↓zy_ic_eq, ↓zy_if_eq, ↓zy_lcmp, ↓zx_iret, eq_self, if_true, if_false, ↓zys_1 (i := i) (show i + 1 < L by omega) hL, ↓zys_2 (i := i) (show i + 2 < L by omega) hL, ↓zys_3 (i := i) (show i + 3 < L by omega) hL, ↓zys_4 (i := i) (show i + 4 < L by omega) hL, ↓zys_5 (i := i) (show i + 5 < L by omega) hL, ↓zys_6 (i := i) (show i + 6 < L by omega) hL, ↓zyc_111, ↓zyc_212, ↓h1, ↓h2, hu0, hu1, hu]
  exact K m2 _ h3 (by omega)
set_option maxRecDepth 100000 in
set_option maxHeartbeats 4000000 in
theorem lw_1482 (hi : i + 7 ≤ L) (hL : L ≤ 3584) (hu : u + 2 ≤ 1100) (h : Iv m (z_g m 1)) (K : lwK L xs i u) : zA L xs 1482 [some (zr (some (34, 1, 0))), some (zr (some (5, 0, 0))), some (zr (some (6, 1, 0))), some (zi (nI i))] [] m u := by
  obtain ⟨v, m1, m2, h1, h2, h3⟩ : Both 112 213 [zi (xs (i + 1)), zi (xs (i + 2))] m := st_112 h rfl
  have hu0 : u ≤ 1100 := by omega
  have hu1 : u + 1 ≤ 1100 := by omega
  simp only [↓za_1482, ↓zx_nil, ↓zx_cons, ↓zp_li, ↓zp_ll, ↓zp_lr, ↓zq_li0, ↓zq_li1, ↓zq_ll0, ↓zq_ll1, ↓zq_lr0, ↓zq_lr1, ↓zk_0, ↓zk_1n, ↓zk_1i, ↓zk_1r, ↓zk_1l, ↓zk_2, zp_okt, ↓zp_okl, zp_sh0, zp_sh1, zp_psn, zp_pss, ↓zp_ri20, ↓zp_ri21, ↓zp_br, ↓reduceIte, Nat.reduceAdd, Nat.zero_add, Nat.add_zero, Nat.le_refl, Nat.zero_le, ↓zx_aload_0, ↓zx_aload_1, ↓zx_aload_2, ↓zx_iload_3, ↓zx_iconst, ↓zx_bipush, ↓zy_iadd, ↓zx_goto, ↓zy_ic_eq, ↓zy_if_eq, ↓zy_lcmp, ↓zx_iret, eq_self, if_true, if_false, ↓zys_1 (i := i) (show i + 1 < L by omega) hL, ↓zys_2 (i := i) (show i + 2 < L by omega) hL, ↓zys_3 (i := i) (show i + 3 < L by omega) hL, ↓zys_4 (i := i) (show i + 4 < L by omega) hL, ↓zys_5 (i := i) (show i + 5 < L by omega) hL, ↓zys_6 (i := i) (show i + 6 < L by omega) hL, ↓zyc_112, ↓zyc_213, ↓h1, ↓h2, hu0, hu1, hu]
  exact K m2 _ h3 (by omega)
set_option maxRecDepth 100000 in
set_option maxHeartbeats 4000000 in
theorem lw_1515 (hi : i + 7 ≤ L) (hL : L ≤ 3584) (hu : u + 2 ≤ 1100) (h : Iv m (z_g m 1)) (K : lwK L xs i u) : zA L xs 1515 [some (zr (some (34, 1, 0))), some (zr (some (5, 0, 0))), some (zr (some (6, 1, 0))), some (zi (nI i))] [] m u := by
  obtain ⟨v, m1, m2, h1, h2, h3⟩ : Both 113 214 [zi (xs (i + 1))] m := st_113 h rfl
  have hu0 : u ≤ 1100 := by omega
  have hu1 : u + 1 ≤ 1100 := by omega
  simp only [↓za_1515, ↓zx_nil, ↓zx_cons, ↓zp_li, ↓zp_ll, ↓zp_lr, ↓zq_li0, ↓zq_li1, ↓zq_ll0, ↓zq_ll1, ↓zq_lr0, ↓zq_lr1, ↓zk_0, ↓zk_1n, ↓zk_1i, ↓zk_1r, ↓zk_1l, ↓zk_2, zp_okt, ↓zp_okl, zp_sh0, zp_sh1, zp_psn, zp_pss, ↓zp_ri20, ↓zp_ri21, ↓zp_br, ↓reduceIte, Nat.reduceAdd, Nat.zero_add, Nat.add_zero, Nat.le_refl, Nat.zero_le, ↓zx_aload_0, ↓zx_aload_1, ↓zx_aload_2, ↓zx_iload_3, ↓zx_iconst, ↓zx_bipush, ↓zy_iadd, ↓zx_goto, ↓zy_ic_eq, ↓zy_if_eq, ↓zy_lcmp, ↓zx_iret, eq_self, if_true, if_false, ↓zys_1 (i := i) (show i + 1 < L by omega) hL, ↓zys_2 (i := i) (show i + 2 < L by omega) hL, ↓zys_3 (i := i) (show i + 3 < L by omega) hL, ↓zys_4 (i := i) (show i + 4 < L by omega) hL, ↓zys_5 (i := i) (show i + 5 < L by omega) hL, ↓zys_6 (i := i) (show i + 6 < L by omega) hL, ↓zyc_113, ↓zyc_214, ↓h1, ↓h2, hu0, hu1, hu]
  exact K m2 _ h3 (by omega)
set_option maxRecDepth 100000 in
set_option maxHeartbeats 4000000 in
theorem lw_1538 (hi : i + 7 ≤ L) (hL : L ≤ 3584) (hu : u + 2 ≤ 1100) (h : Iv m (z_g m 1)) (K : lwK L xs i u) : zA L xs 1538 [some (zr (some (34, 1, 0))), some (zr (some (5, 0, 0))), some (zr (some (6, 1, 0))), some (zi (nI i))] [] m u := by
  obtain ⟨v, m1, m2, h1, h2, h3⟩ : Both 114 215 [zi (xs (i + 1)), zi (xs (i + 2))] m := st_114 h rfl
  have hu0 : u ≤ 1100 := by omega
  have hu1 : u + 1 ≤ 1100 := by omega
  simp only [↓za_1538, ↓zx_nil, ↓zx_cons, ↓zp_li, ↓zp_ll, ↓zp_lr, ↓zq_li0, ↓zq_li1, ↓zq_ll0, ↓zq_ll1, ↓zq_lr0, ↓zq_lr1, ↓zk_0, ↓zk_1n, ↓zk_1i, ↓zk_1r, ↓zk_1l, ↓zk_2, zp_okt, ↓zp_okl, zp_sh0, zp_sh1, zp_psn, zp_pss, ↓zp_ri20, ↓zp_ri21, ↓zp_br, ↓reduceIte, Nat.reduceAdd, Nat.zero_add, Nat.add_zero, Nat.le_refl, Nat.zero_le, ↓zx_aload_0, ↓zx_aload_1, ↓zx_aload_2, ↓zx_iload_3, ↓zx_iconst, ↓zx_bipush, ↓zy_iadd, ↓zx_goto, ↓zy_ic_eq, ↓zy_if_eq, ↓zy_lcmp, ↓zx_iret, eq_self, if_true, if_false, ↓zys_1 (i := i) (show i + 1 < L by omega) hL, ↓zys_2 (i := i) (show i + 2 < L by omega) hL, ↓zys_3 (i := i) (show i + 3 < L by omega) hL, ↓zys_4 (i := i) (show i + 4 < L by omega) hL, ↓zys_5 (i := i) (show i + 5 < L by omega) hL, ↓zys_6 (i := i) (show i + 6 < L by omega) hL, ↓zyc_114, ↓zyc_215, ↓h1, ↓h2, hu0, hu1, hu]
  exact K m2 _ h3 (by omega)
set_option maxRecDepth 100000 in
set_option maxHeartbeats 4000000 in
theorem lw_1571 (hi : i + 7 ≤ L) (hL : L ≤ 3584) (hu : u + 2 ≤ 1100) (h : Iv m (z_g m 1)) (K : lwK L xs i u) : zA L xs 1571 [some (zr (some (34, 1, 0))), some (zr (some (5, 0, 0))), some (zr (some (6, 1, 0))), some (zi (nI i))] [] m u := by
  obtain ⟨v, m1, m2, h1, h2, h3⟩ : Both 118 217 [zi (xs (i + 1)), zi (xs (i + 2)), zi (xs (i + 3)), zi (xs (i + 4))] m := st_118 h rfl
  have hu0 : u ≤ 1100 := by omega
  have hu1 : u + 1 ≤ 1100 := by omega
  simp only [↓za_1571, ↓zx_nil, ↓zx_cons, ↓zp_li, ↓zp_ll, ↓zp_lr, ↓zq_li0, ↓zq_li1, ↓zq_ll0, ↓zq_ll1, ↓zq_lr0, ↓zq_lr1, ↓zk_0, ↓zk_1n, ↓zk_1i, ↓zk_1r, ↓zk_1l, ↓zk_2, zp_okt, ↓zp_okl, zp_sh0, zp_sh1, zp_psn, zp_pss, ↓zp_ri20, ↓zp_ri21, ↓zp_br, ↓reduceIte, Nat.reduceAdd, Nat.zero_add, Nat.add_zero, Nat.le_refl, Nat.zero_le, ↓zx_aload_0, ↓zx_aload_1, ↓zx_aload_2, ↓zx_iload_3, ↓zx_iconst, ↓zx_bipush, ↓zy_iadd, ↓zx_goto, ↓zy_ic_eq, ↓zy_if_eq, ↓zy_lcmp, ↓zx_iret, eq_self, if_true, if_false, ↓zys_1 (i := i) (show i + 1 < L by omega) hL, ↓zys_2 (i := i) (show i + 2 < L by omega) hL, ↓zys_3 (i := i) (show i + 3 < L by omega) hL, ↓zys_4 (i := i) (show i + 4 < L by omega) hL, ↓zys_5 (i := i) (show i + 5 < L by omega) hL, ↓zys_6 (i := i) (show i + 6 < L by omega) hL, ↓zyc_118, ↓zyc_217, ↓h1, ↓h2, hu0, hu1, hu]
  exact K m2 _ h3 (by omega)
set_option maxRecDepth 100000 in
set_option maxHeartbeats 4000000 in
theorem lw_1624 (hi : i + 7 ≤ L) (hL : L ≤ 3584) (hu : u + 2 ≤ 1100) (h : Iv m (z_g m 1)) (K : lwK L xs i u) : zA L xs 1624 [some (zr (some (34, 1, 0))), some (zr (some (5, 0, 0))), some (zr (some (6, 1, 0))), some (zi (nI i))] [] m u := by
  obtain ⟨v, m1, m2, h1, h2, h3⟩ : Both 120 219 [zi (xs (i + 1)), zi (xs (i + 2))] m := st_120 h rfl
  have hu0 : u ≤ 1100 := by omega
  have hu1 : u + 1 ≤ 1100 := by omega
  simp only [↓za_1624, ↓zx_nil, ↓zx_cons, ↓zp_li, ↓zp_ll, ↓zp_lr, ↓zq_li0, ↓zq_li1, ↓zq_ll0, ↓zq_ll1, ↓zq_lr0, ↓zq_lr1, ↓zk_0, ↓zk_1n, ↓zk_1i, ↓zk_1r, ↓zk_1l, ↓zk_2, zp_okt, ↓zp_okl, zp_sh0, zp_sh1, zp_psn, zp_pss, ↓zp_ri20, ↓zp_ri21, ↓zp_br, ↓reduceIte, Nat.reduceAdd, Nat.zero_add, Nat.add_zero, Nat.le_refl, Nat.zero_le, ↓zx_aload_0, ↓zx_aload_1, ↓zx_aload_2, ↓zx_iload_3, ↓zx_iconst, ↓zx_bipush, ↓zy_iadd, ↓zx_goto, ↓zy_ic_eq, ↓zy_if_eq, ↓zy_lcmp, ↓zx_iret, eq_self, if_true, if_false, ↓zys_1 (i := i) (show i + 1 < L by omega) hL, ↓zys_2 (i := i) (show i + 2 < L by omega) hL, ↓zys_3 (i := i) (show i + 3 < L by omega) hL, ↓zys_4 (i := i) (show i + 4 < L by omega) hL, ↓zys_5 (i := i) (show i + 5 < L by omega) hL, ↓zys_6 (i := i) (show i + 6 < L by omega) hL, ↓zyc_120, ↓zyc_219, ↓h1, ↓h2, hu0, hu1, hu]
  exact K m2 _ h3 (by omega)
set_option maxRecDepth 100000 in
set_option maxHeartbeats 4000000 in
theorem lw_1657 (hi : i + 7 ≤ L) (hL : L ≤ 3584) (hu : u + 2 ≤ 1100) (h : Iv m (z_g m 1)) (K : lwK L xs i u) : zA L xs 1657 [some (zr (some (34, 1, 0))), some (zr (some (5, 0, 0))), some (zr (some (6, 1, 0))), some (zi (nI i))] [] m u := by
  obtain ⟨v, m1, m2, h1, h2, h3⟩ : Both 121 221 [zi (xs (i + 1)), zi (xs (i + 2)), zi (xs (i + 3))] m := st_121 h rfl
  have hu0 : u ≤ 1100 := by omega
  have hu1 : u + 1 ≤ 1100 := by omega
  simp only [↓za_1657, ↓zx_nil, ↓zx_cons, ↓zp_li, ↓zp_ll, ↓zp_lr, ↓zq_li0, ↓zq_li1, ↓zq_ll0, ↓zq_ll1, ↓zq_lr0, ↓zq_lr1, ↓zk_0, ↓zk_1n, ↓zk_1i, ↓zk_1r, ↓zk_1l, ↓zk_2, zp_okt, ↓zp_okl, zp_sh0, zp_sh1, zp_psn, zp_pss, ↓zp_ri20, ↓zp_ri21, ↓zp_br, ↓reduceIte, Nat.reduceAdd, Nat.zero_add, Nat.add_zero, Nat.le_refl, Nat.zero_le, ↓zx_aload_0, ↓zx_aload_1, ↓zx_aload_2, ↓zx_iload_3, ↓zx_iconst, ↓zx_bipush, ↓zy_iadd, ↓zx_goto, ↓zy_ic_eq, ↓zy_if_eq, ↓zy_lcmp, ↓zx_iret, eq_self, if_true, if_false, ↓zys_1 (i := i) (show i + 1 < L by omega) hL, ↓zys_2 (i := i) (show i + 2 < L by omega) hL, ↓zys_3 (i := i) (show i + 3 < L by omega) hL, ↓zys_4 (i := i) (show i + 4 < L by omega) hL, ↓zys_5 (i := i) (show i + 5 < L by omega) hL, ↓zys_6 (i := i) (show i + 6 < L by omega) hL, ↓zyc_121, ↓zyc_221, ↓h1, ↓h2, hu0, hu1, hu]
  exact K m2 _ h3 (by omega)
set_option maxRecDepth 100000 in
set_option maxHeartbeats 4000000 in
theorem lw_1700 (hi : i + 7 ≤ L) (hL : L ≤ 3584) (hu : u + 2 ≤ 1100) (h : Iv m (z_g m 1)) (K : lwK L xs i u) : zA L xs 1700 [some (zr (some (34, 1, 0))), some (zr (some (5, 0, 0))), some (zr (some (6, 1, 0))), some (zi (nI i))] [] m u := by
  obtain ⟨v, m1, m2, h1, h2, h3⟩ : Both 122 222 [zi (xs (i + 1)), zi (xs (i + 2))] m := st_122 h rfl
  have hu0 : u ≤ 1100 := by omega
  have hu1 : u + 1 ≤ 1100 := by omega
  simp only [↓za_1700, ↓zx_nil, ↓zx_cons, ↓zp_li, ↓zp_ll, ↓zp_lr, ↓zq_li0, ↓zq_li1, ↓zq_ll0, ↓zq_ll1, ↓zq_lr0, ↓zq_lr1, ↓zk_0, ↓zk_1n, ↓zk_1i, ↓zk_1r, ↓zk_1l, ↓zk_2, zp_okt, ↓zp_okl, zp_sh0, zp_sh1, zp_psn, zp_pss, ↓zp_ri20, ↓zp_ri21, ↓zp_br, ↓reduceIte, Nat.reduceAdd, Nat.zero_add, Nat.add_zero, Nat.le_refl, Nat.zero_le, ↓zx_aload_0, ↓zx_aload_1, ↓zx_aload_2, ↓zx_iload_3, ↓zx_iconst, ↓zx_bipush, ↓zy_iadd, ↓zx_goto, ↓zy_ic_eq, ↓zy_if_eq, ↓zy_lcmp, ↓zx_iret, eq_self, if_true, if_false, ↓zys_1 (i := i) (show i + 1 < L by omega) hL, ↓zys_2 (i := i) (show i + 2 < L by omega) hL, ↓zys_3 (i := i) (show i + 3 < L by omega) hL, ↓zys_4 (i := i) (show i + 4 < L by omega) hL, ↓zys_5 (i := i) (show i + 5 < L by omega) hL, ↓zys_6 (i := i) (show i + 6 < L by omega) hL, ↓zyc_122, ↓zyc_222, ↓h1, ↓h2, hu0, hu1, hu]
  exact K m2 _ h3 (by omega)
set_option maxRecDepth 100000 in
set_option maxHeartbeats 4000000 in
theorem lw_1733 (hi : i + 7 ≤ L) (hL : L ≤ 3584) (hu : u + 2 ≤ 1100) (h : Iv m (z_g m 1)) (K : lwK L xs i u) : zA L xs 1733 [some (zr (some (34, 1, 0))), some (zr (some (5, 0, 0))), some (zr (some (6, 1, 0))), some (zi (nI i))] [] m u := by
  obtain ⟨v, m1, m2, h1, h2, h3⟩ : Both 123 223 [zi (xs (i + 1))] m := st_123 h rfl
  have hu0 : u ≤ 1100 := by omega
  have hu1 : u + 1 ≤ 1100 := by omega
  simp only [↓za_1733, ↓zx_nil, ↓zx_cons, ↓zp_li, ↓zp_ll, ↓zp_lr, ↓zq_li0, ↓zq_li1, ↓zq_ll0, ↓zq_ll1, ↓zq_lr0, ↓zq_lr1, ↓zk_0, ↓zk_1n, ↓zk_1i, ↓zk_1r, ↓zk_1l, ↓zk_2, zp_okt, ↓zp_okl, zp_sh0, zp_sh1, zp_psn, zp_pss, ↓zp_ri20, ↓zp_ri21, ↓zp_br, ↓reduceIte, Nat.reduceAdd, Nat.zero_add, Nat.add_zero, Nat.le_refl, Nat.zero_le, ↓zx_aload_0, ↓zx_aload_1, ↓zx_aload_2, ↓zx_iload_3, ↓zx_iconst, ↓zx_bipush, ↓zy_iadd, ↓zx_goto, ↓zy_ic_eq, ↓zy_if_eq, ↓zy_lcmp, ↓zx_iret, eq_self, if_true, if_false, ↓zys_1 (i := i) (show i + 1 < L by omega) hL, ↓zys_2 (i := i) (show i + 2 < L by omega) hL, ↓zys_3 (i := i) (show i + 3 < L by omega) hL, ↓zys_4 (i := i) (show i + 4 < L by omega) hL, ↓zys_5 (i := i) (show i + 5 < L by omega) hL, ↓zys_6 (i := i) (show i + 6 < L by omega) hL, ↓zyc_123, ↓zyc_223, ↓h1, ↓h2, hu0, hu1, hu]
  exact K m2 _ h3 (by omega)
set_option maxRecDepth 100000 in
set_option maxHeartbeats 4000000 in
theorem lw_1756 (hi : i + 7 ≤ L) (hL : L ≤ 3584) (hu : u + 2 ≤ 1100) (h : Iv m (z_g m 1)) (K : lwK L xs i u) : zA L xs 1756 [some (zr (some (34, 1, 0))), some (zr (some (5, 0, 0))), some (zr (some (6, 1, 0))), some (zi (nI i))] [] m u := by
  obtain ⟨v, m1, m2, h1, h2, h3⟩ : Both 124 225 [] m := st_124 h rfl
  have hu0 : u ≤ 1100 := by omega
  have hu1 : u + 1 ≤ 1100 := by omega
  simp only [↓za_1756, ↓zx_nil, ↓zx_cons, ↓zp_li, ↓zp_ll, ↓zp_lr, ↓zq_li0, ↓zq_li1, ↓zq_ll0, ↓zq_ll1, ↓zq_lr0, ↓zq_lr1, ↓zk_0, ↓zk_1n, ↓zk_1i, ↓zk_1r, ↓zk_1l, ↓zk_2, zp_okt, ↓zp_okl, zp_sh0, zp_sh1, zp_psn, zp_pss, ↓zp_ri20, ↓zp_ri21, ↓zp_br, ↓reduceIte, Nat.reduceAdd, Nat.zero_add, Nat.add_zero, Nat.le_refl, Nat.zero_le, ↓zx_aload_0, ↓zx_aload_1, ↓zx_aload_2, ↓zx_iload_3, ↓zx_iconst, ↓zx_bipush, ↓zy_iadd, ↓zx_goto, ↓zy_ic_eq, ↓zy_if_eq, ↓zy_lcmp, ↓zx_iret, eq_self, if_true, if_false, ↓zys_1 (i := i) (show i + 1 < L by omega) hL, ↓zys_2 (i := i) (show i + 2 < L by omega) hL, ↓zys_3 (i := i) (show i + 3 < L by omega) hL, ↓zys_4 (i := i) (show i + 4 < L by omega) hL, ↓zys_5 (i := i) (show i + 5 < L by omega) hL, ↓zys_6 (i := i) (show i + 6 < L by omega) hL, ↓zyc_124, ↓zyc_225, ↓h1, ↓h2, hu0, hu1, hu]
  exact K m2 _ h3 (by omega)
set_option maxRecDepth 100000 in
set_option maxHeartbeats 4000000 in
theorem lw_665 (hi : i + 7 ≤ L) (hL : L ≤ 3584) (hu : u + 2 ≤ 1100) (h : Iv m (z_g m 1)) (K : lwK L xs i u) : zA L xs 665 [some (zr (some (34, 1, 0))), some (zr (some (5, 0, 0))), some (zr (some (6, 1, 0))), some (zi (nI i))] [] m u := by
  by_cases c3 : xs (i + 3) = 0
  · obtain ⟨v, m1, m2, h1, h2, h3⟩ : Both 88 176 [zi (xs (i + 1)), zi (xs (i + 2)), zi 0, zi (xs (i + 4))] m := st_88f h rfl
    have hu0 : u ≤ 1100 := by omega
    have hu1 : u + 1 ≤ 1100 := by omega
    simp only [↓za_665, ↓za_688, ↓za_689, ↓za_720, ↓za_721, ↓zx_nil, ↓zx_cons, ↓zp_li, ↓zp_ll, ↓zp_lr, ↓zq_li0, ↓zq_li1, ↓zq_ll0, ↓zq_ll1, ↓zq_lr0, ↓zq_lr1, ↓zk_0, ↓zk_1n, ↓zk_1i, ↓zk_1r, ↓zk_1l, ↓zk_2, zp_okt, ↓zp_okl, zp_sh0, zp_sh1, zp_psn, zp_pss, ↓zp_ri20, ↓zp_ri21, ↓zp_br, ↓reduceIte, Nat.reduceAdd, Nat.zero_add, Nat.add_zero, Nat.le_refl, Nat.zero_le, ↓zx_aload_0, ↓zx_aload_1, ↓zx_aload_2, ↓zx_iload_3, ↓zx_iconst, ↓zx_bipush, ↓zy_iadd, ↓zx_goto, ↓zy_ic_eq, ↓zy_if_eq, ↓zy_lcmp, ↓zx_iret, eq_self, if_true, if_false, ↓zys_1 (i := i) (show i + 1 < L by omega) hL, ↓zys_2 (i := i) (show i + 2 < L by omega) hL, ↓zys_3 (i := i) (show i + 3 < L by omega) hL, ↓zys_4 (i := i) (show i + 4 < L by omega) hL, ↓zys_5 (i := i) (show i + 5 < L by omega) hL, ↓zys_6 (i := i) (show i + 6 < L by omega) hL, ↓zyc_88, ↓zyc_176, ↓h1, ↓h2, hu0, hu1, hu, c3]
    exact K m2 _ h3 (by omega)
  · obtain ⟨v, m1, m2, h1, h2, h3⟩ : Both 88 176 [zi (xs (i + 1)), zi (xs (i + 2)), zi 1, zi (xs (i + 4))] m := st_88t h rfl
    have hu0 : u ≤ 1100 := by omega
    have hu1 : u + 1 ≤ 1100 := by omega
    simp only [↓za_665, ↓za_688, ↓za_689, ↓za_720, ↓za_721, ↓zx_nil, ↓zx_cons, ↓zp_li, ↓zp_ll, ↓zp_lr, ↓zq_li0, ↓zq_li1, ↓zq_ll0, ↓zq_ll1, ↓zq_lr0, ↓zq_lr1, ↓zk_0, ↓zk_1n, ↓zk_1i, ↓zk_1r, ↓zk_1l, ↓zk_2, zp_okt, ↓zp_okl, zp_sh0, zp_sh1, zp_psn, zp_pss, ↓zp_ri20, ↓zp_ri21, ↓zp_br, ↓reduceIte, Nat.reduceAdd, Nat.zero_add, Nat.add_zero, Nat.le_refl, Nat.zero_le, ↓zx_aload_0, ↓zx_aload_1, ↓zx_aload_2, ↓zx_iload_3, ↓zx_iconst, ↓zx_bipush, ↓zy_iadd, ↓zx_goto, ↓zy_ic_eq, ↓zy_if_eq, ↓zy_lcmp, ↓zx_iret, eq_self, if_true, if_false, ↓zys_1 (i := i) (show i + 1 < L by omega) hL, ↓zys_2 (i := i) (show i + 2 < L by omega) hL, ↓zys_3 (i := i) (show i + 3 < L by omega) hL, ↓zys_4 (i := i) (show i + 4 < L by omega) hL, ↓zys_5 (i := i) (show i + 5 < L by omega) hL, ↓zys_6 (i := i) (show i + 6 < L by omega) hL, ↓zyc_88, ↓zyc_176, ↓h1, ↓h2, hu0, hu1, hu, c3]
    exact K m2 _ h3 (by omega)
end Law2
