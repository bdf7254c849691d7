/-! ===== THE SMALL MACHINE BY EQUATIONS ===== -/
section Eqs
theorem z_wp_eq {j : Nat} {sc : zX} {dp : Nat} {C : zC} {Q : zQ} {B : Nat} {pc : Nat} {ls : zL} {st : List zV} {m : zM} {u : Nat} (hC : z_Cm C) : z_wp j sc dp C Q B pc ls st m u = z_blk C Q B (z_mR j) dp sc (z_wp j sc dp C Q B) (z_code j pc) pc ls st m u :=
  propext ⟨fun h => h (fun pc ls st m u => z_stp j sc dp C Q B (z_wp j sc dp C Q B) pc ls st m u) (fun pc ls st m u q => z_blk_m hC (fun _ _ q => q) (fun _ _ _ _ _ q => z_wp_in hC q) _ _ _ _ _ _ q), z_wp_in hC⟩
theorem zW_at (j pc : Nat) {d : Nat} {Q : zQ} {ls : zL} {st : List zV} {m : zM} {u : Nat} : zW j d Q pc ls st m u = z_blk (z_call d) Q (z_mB j) (z_mR j) d none (zW j d Q) (z_code j pc) pc ls st m u := z_wp_eq (z_call_m d)
theorem zC_at (j : Nat) {d : Nat} {as : List zV} {m : zM} {Q : zQ} : z_call (d + 1) j as m Q = z_ok (Nat.ble (z_ent as).length (z_mL j)) (zW j d Q 0 (z_pad (z_mL j) (z_ent as)) [] m 0) := rfl
variable {C : zC} {Q : zQ} {B rt dp : Nat} {sc : zX} {J : zJ} {pc : Nat} {K : zK} {ls : zL} {st : List zV} {m : zM} {u : Nat} {l a b : Nat} {z : Int32} {w : Int64} {r i : Nat}
theorem zx_nil : z_blk C Q B rt dp sc J [] pc ls st m u = J pc ls st m u := id rfl
theorem zx_cons {x : zN} {is : List zN} : z_blk C Q B rt dp sc J (x :: is) pc ls st m u = z_ex C Q B rt dp sc J pc x (fun ls st m u => z_blk C Q B rt dp sc J is (pc + x.2.1) ls st m u) ls st m u := id rfl
theorem zx_iconst {n : Int} : z_ex C Q B rt dp sc J pc (.iconst n, l, a, b, z, w) K ls st m u = K ls (zi z :: st) m u := id rfl
theorem zx_bipush {n : Int} : z_ex C Q B rt dp sc J pc (.bipush n, l, a, b, z, w) K ls st m u = K ls (zi z :: st) m u := id rfl
theorem zx_sipush {n : Int} : z_ex C Q B rt dp sc J pc (.sipush n, l, a, b, z, w) K ls st m u = K ls (zi z :: st) m u := id rfl
theorem zx_ldc {n : Nat} : z_ex C Q B rt dp sc J pc (.ldc n, l, a, b, z, w) K ls st m u = K ls (zi z :: st) m u := id rfl
theorem zx_ldc_w {n : Nat} : z_ex C Q B rt dp sc J pc (.ldc_w n, l, a, b, z, w) K ls st m u = K ls (zi z :: st) m u := id rfl
theorem zx_lconst0 : z_ex C Q B rt dp sc J pc (.lconst 0, l, a, b, z, w) K ls st m u = K ls (zl w :: st) m u := id rfl
theorem zx_lconst1 : z_ex C Q B rt dp sc J pc (.lconst 1, l, a, b, z, w) K ls st m u = K ls (zl w :: st) m u := id rfl
theorem zx_ldc2 {n : Nat} : z_ex C Q B rt dp sc J pc (.ldc2_w n, l, a, b, z, w) K ls st m u = K ls (zl w :: st) m u := id rfl
theorem zx_iload {n : Nat} : z_ex C Q B rt dp sc J pc (.iload n, l, a, b, z, w) K ls st m u = z_li (z_ld ls n) fun v => K ls (zi v :: st) m u := id rfl
theorem zx_iload_0 : z_ex C Q B rt dp sc J pc (.iload_n 0, l, a, b, z, w) K ls st m u = z_li (z_ld ls 0) fun v => K ls (zi v :: st) m u := id rfl
theorem zx_iload_1 : z_ex C Q B rt dp sc J pc (.iload_n 1, l, a, b, z, w) K ls st m u = z_li (z_ld ls 1) fun v => K ls (zi v :: st) m u := id rfl
theorem zx_iload_2 : z_ex C Q B rt dp sc J pc (.iload_n 2, l, a, b, z, w) K ls st m u = z_li (z_ld ls 2) fun v => K ls (zi v :: st) m u := id rfl
theorem zx_iload_3 : z_ex C Q B rt dp sc J pc (.iload_n 3, l, a, b, z, w) K ls st m u = z_li (z_ld ls 3) fun v => K ls (zi v :: st) m u := id rfl
theorem zx_lload {n : Nat} : z_ex C Q B rt dp sc J pc (.lload n, l, a, b, z, w) K ls st m u = z_ll (z_ld ls n) fun v => K ls (zl v :: st) m u := id rfl
theorem zx_lload_0 : z_ex C Q B rt dp sc J pc (.lload_n 0, l, a, b, z, w) K ls st m u = z_ll (z_ld ls 0) fun v => K ls (zl v :: st) m u := id rfl
theorem zx_lload_1 : z_ex C Q B rt dp sc J pc (.lload_n 1, l, a, b, z, w) K ls st m u = z_ll (z_ld ls 1) fun v => K ls (zl v :: st) m u := id rfl
theorem zx_lload_2 : z_ex C Q B rt dp sc J pc (.lload_n 2, l, a, b, z, w) K ls st m u = z_ll (z_ld ls 2) fun v => K ls (zl v :: st) m u := id rfl
theorem zx_lload_3 : z_ex C Q B rt dp sc J pc (.lload_n 3, l, a, b, z, w) K ls st m u = z_ll (z_ld ls 3) fun v => K ls (zl v :: st) m u := id rfl
theorem zx_aload {n : Nat} : z_ex C Q B rt dp sc J pc (.aload n, l, a, b, z, w) K ls st m u = z_lr (z_ld ls n) fun v => K ls (zr v :: st) m u := id rfl
theorem zx_aload_0 : z_ex C Q B rt dp sc J pc (.aload_n 0, l, a, b, z, w) K ls st m u = z_lr (z_ld ls 0) fun v => K ls (zr v :: st) m u := id rfl
theorem zx_aload_1 : z_ex C Q B rt dp sc J pc (.aload_n 1, l, a, b, z, w) K ls st m u = z_lr (z_ld ls 1) fun v => K ls (zr v :: st) m u := id rfl
theorem zx_aload_2 : z_ex C Q B rt dp sc J pc (.aload_n 2, l, a, b, z, w) K ls st m u = z_lr (z_ld ls 2) fun v => K ls (zr v :: st) m u := id rfl
theorem zx_aload_3 : z_ex C Q B rt dp sc J pc (.aload_n 3, l, a, b, z, w) K ls st m u = z_lr (z_ld ls 3) fun v => K ls (zr v :: st) m u := id rfl
theorem zx_istore {n : Nat} : z_ex C Q B rt dp sc J pc (.istore n, l, a, b, z, w) K ls st m u = z_p1 st fun v st => K (z_st ls n (zi v)) st m u := id rfl
theorem zx_istore_0 : z_ex C Q B rt dp sc J pc (.istore_n 0, l, a, b, z, w) K ls st m u = z_p1 st fun v st => K (z_st ls 0 (zi v)) st m u := id rfl
theorem zx_istore_1 : z_ex C Q B rt dp sc J pc (.istore_n 1, l, a, b, z, w) K ls st m u = z_p1 st fun v st => K (z_st ls 1 (zi v)) st m u := id rfl
theorem zx_istore_2 : z_ex C Q B rt dp sc J pc (.istore_n 2, l, a, b, z, w) K ls st m u = z_p1 st fun v st => K (z_st ls 2 (zi v)) st m u := id rfl
theorem zx_istore_3 : z_ex C Q B rt dp sc J pc (.istore_n 3, l, a, b, z, w) K ls st m u = z_p1 st fun v st => K (z_st ls 3 (zi v)) st m u := id rfl
theorem zx_astore {n : Nat} : z_ex C Q B rt dp sc J pc (.astore n, l, a, b, z, w) K ls st m u = z_r1 st fun v st => K (z_st ls n (zr v)) st m u := id rfl
theorem zx_astore_0 : z_ex C Q B rt dp sc J pc (.astore_n 0, l, a, b, z, w) K ls st m u = z_r1 st fun v st => K (z_st ls 0 (zr v)) st m u := id rfl
theorem zx_astore_1 : z_ex C Q B rt dp sc J pc (.astore_n 1, l, a, b, z, w) K ls st m u = z_r1 st fun v st => K (z_st ls 1 (zr v)) st m u := id rfl
theorem zx_astore_2 : z_ex C Q B rt dp sc J pc (.astore_n 2, l, a, b, z, w) K ls st m u = z_r1 st fun v st => K (z_st ls 2 (zr v)) st m u := id rfl
theorem zx_astore_3 : z_ex C Q B rt dp sc J pc (.astore_n 3, l, a, b, z, w) K ls st m u = z_r1 st fun v st => K (z_st ls 3 (zr v)) st m u := id rfl
theorem zx_lstore {n : Nat} : z_ex C Q B rt dp sc J pc (.lstore n, l, a, b, z, w) K ls st m u = z_q1 st fun v st => K (z_lc (z_st ls n (zl v)) (n + 1)) st m u := id rfl
theorem zx_lstore_0 : z_ex C Q B rt dp sc J pc (.lstore_n 0, l, a, b, z, w) K ls st m u = z_q1 st fun v st => K (z_lc (z_st ls 0 (zl v)) 1) st m u := id rfl
theorem zx_lstore_1 : z_ex C Q B rt dp sc J pc (.lstore_n 1, l, a, b, z, w) K ls st m u = z_q1 st fun v st => K (z_lc (z_st ls 1 (zl v)) 2) st m u := id rfl
theorem zx_lstore_2 : z_ex C Q B rt dp sc J pc (.lstore_n 2, l, a, b, z, w) K ls st m u = z_q1 st fun v st => K (z_lc (z_st ls 2 (zl v)) 3) st m u := id rfl
theorem zx_lstore_3 : z_ex C Q B rt dp sc J pc (.lstore_n 3, l, a, b, z, w) K ls st m u = z_q1 st fun v st => K (z_lc (z_st ls 3 (zl v)) 4) st m u := id rfl
theorem zx_iinc {n : Nat} {k : Int} : z_ex C Q B rt dp sc J pc (.iinc n k, l, a, b, z, w) K ls st m u = z_li (z_ld ls n) fun v => K (z_st ls n (zi (v + z))) st m u := id rfl
theorem zx_iadd : z_ex C Q B rt dp sc J pc (.iadd, l, a, b, z, w) K ls st m u = z_p2 st fun x y st => K ls (zi (x + y) :: st) m u := id rfl
theorem zx_isub : z_ex C Q B rt dp sc J pc (.isub, l, a, b, z, w) K ls st m u = z_p2 st fun x y st => K ls (zi (x - y) :: st) m u := id rfl
theorem zx_imul : z_ex C Q B rt dp sc J pc (.imul, l, a, b, z, w) K ls st m u = z_p2 st fun x y st => K ls (zi (x * y) :: st) m u := id rfl
theorem zx_iand : z_ex C Q B rt dp sc J pc (.iand, l, a, b, z, w) K ls st m u = z_p2 st fun x y st => K ls (zi (x &&& y) :: st) m u := id rfl
theorem zx_ishl : z_ex C Q B rt dp sc J pc (.ishl, l, a, b, z, w) K ls st m u = z_p2 st fun x y st => K ls (zi (x <<< (y &&& 31)) :: st) m u := id rfl
theorem zx_ishr : z_ex C Q B rt dp sc J pc (.ishr, l, a, b, z, w) K ls st m u = z_p2 st fun x y st => K ls (zi (x >>> (y &&& 31)) :: st) m u := id rfl
theorem zx_iushr : z_ex C Q B rt dp sc J pc (.iushr, l, a, b, z, w) K ls st m u = z_p2 st fun x y st => K ls (zi ((x.toUInt32 >>> (y.toUInt32 &&& Int32.toUInt32 31)).toInt32) :: st) m u := id rfl
theorem zx_idiv : z_ex C Q B rt dp sc J pc (.idiv, l, a, b, z, w) K ls st m u = z_p2 st fun x y st => ¬ y = 0 ∧ K ls (zi (x / y) :: st) m u := id rfl
theorem zx_irem : z_ex C Q B rt dp sc J pc (.irem, l, a, b, z, w) K ls st m u = z_p2 st fun x y st => ¬ y = 0 ∧ K ls (zi (x - x / y * y) :: st) m u := id rfl
theorem zx_ineg : z_ex C Q B rt dp sc J pc (.ineg, l, a, b, z, w) K ls st m u = z_p1 st fun x st => K ls (zi (-x) :: st) m u := id rfl
theorem zx_i2l : z_ex C Q B rt dp sc J pc (.i2l, l, a, b, z, w) K ls st m u = z_p1 st fun x st => K ls (zl x.toInt64 :: st) m u := id rfl
theorem zx_ladd : z_ex C Q B rt dp sc J pc (.ladd, l, a, b, z, w) K ls st m u = z_q2 st fun x y st => K ls (zl (x + y) :: st) m u := id rfl
theorem zx_lsub : z_ex C Q B rt dp sc J pc (.lsub, l, a, b, z, w) K ls st m u = z_q2 st fun x y st => K ls (zl (x - y) :: st) m u := id rfl
theorem zx_lcmp : z_ex C Q B rt dp sc J pc (.lcmp, l, a, b, z, w) K ls st m u = z_q2 st fun x y st => K ls (zi (lg_cmp x y) :: st) m u := id rfl
theorem zx_dup {v : zV} {st : List zV} : z_ex C Q B rt dp sc J pc (.dup, l, a, b, z, w) K ls (v :: st) m u = z_c1 v (K ls (v :: v :: st) m u) := id rfl
theorem zx_dup2 {v v2 : zV} {st : List zV} : z_ex C Q B rt dp sc J pc (.dup2, l, a, b, z, w) K ls (v :: v2 :: st) m u = z_c1 v (z_c1 v2 (K ls (v :: v2 :: v :: v2 :: st) m u)) := id rfl
theorem zx_pop {v : zV} {st : List zV} : z_ex C Q B rt dp sc J pc (.pop, l, a, b, z, w) K ls (v :: st) m u = z_c1 v (K ls st m u) := id rfl
theorem zx_goto {n : Int} : z_ex C Q B rt dp sc J pc (.goto n, l, a, b, z, w) K ls st m u = J a ls st m u := id rfl
theorem zx_ic_eq {n : Int} : z_ex C Q B rt dp sc J pc (.if_icmp .eq n, l, a, b, z, w) K ls st m u = z_p2 st fun x y st => z_br (x = y) (J a ls st m u) (K ls st m u) := id rfl
theorem zx_ic_ne {n : Int} : z_ex C Q B rt dp sc J pc (.if_icmp .ne n, l, a, b, z, w) K ls st m u = z_p2 st fun x y st => z_br (x = y) (K ls st m u) (J a ls st m u) := id rfl
theorem zx_ic_lt {n : Int} : z_ex C Q B rt dp sc J pc (.if_icmp .lt n, l, a, b, z, w) K ls st m u = z_p2 st fun x y st => z_br (x < y) (J a ls st m u) (K ls st m u) := id rfl
theorem zx_ic_ge {n : Int} : z_ex C Q B rt dp sc J pc (.if_icmp .ge n, l, a, b, z, w) K ls st m u = z_p2 st fun x y st => z_br (y ≤ x) (J a ls st m u) (K ls st m u) := id rfl
theorem zx_ic_gt {n : Int} : z_ex C Q B rt dp sc J pc (.if_icmp .gt n, l, a, b, z, w) K ls st m u = z_p2 st fun x y st => z_br (y < x) (J a ls st m u) (K ls st m u) := id rfl
theorem zx_ic_le {n : Int} : z_ex C Q B rt dp sc J pc (.if_icmp .le n, l, a, b, z, w) K ls st m u = z_p2 st fun x y st => z_br (x ≤ y) (J a ls st m u) (K ls st m u) := id rfl
theorem zx_if_eq {n : Int} : z_ex C Q B rt dp sc J pc (.ifCond .eq n, l, a, b, z, w) K ls st m u = z_p1 st fun x st => z_br (x = 0) (J a ls st m u) (K ls st m u) := id rfl
theorem zx_if_ne {n : Int} : z_ex C Q B rt dp sc J pc (.ifCond .ne n, l, a, b, z, w) K ls st m u = z_p1 st fun x st => z_br (x = 0) (K ls st m u) (J a ls st m u) := id rfl
theorem zx_if_lt {n : Int} : z_ex C Q B rt dp sc J pc (.ifCond .lt n, l, a, b, z, w) K ls st m u = z_p1 st fun x st => z_br (x < 0) (J a ls st m u) (K ls st m u) := id rfl
theorem zx_if_ge {n : Int} : z_ex C Q B rt dp sc J pc (.ifCond .ge n, l, a, b, z, w) K ls st m u = z_p1 st fun x st => z_br (0 ≤ x) (J a ls st m u) (K ls st m u) := id rfl
theorem zx_if_gt {n : Int} : z_ex C Q B rt dp sc J pc (.ifCond .gt n, l, a, b, z, w) K ls st m u = z_p1 st fun x st => z_br (0 < x) (J a ls st m u) (K ls st m u) := id rfl
theorem zx_if_le {n : Int} : z_ex C Q B rt dp sc J pc (.ifCond .le n, l, a, b, z, w) K ls st m u = z_p1 st fun x st => z_br (x ≤ 0) (J a ls st m u) (K ls st m u) := id rfl
theorem zx_ifnull {n : Int} : z_ex C Q B rt dp sc J pc (.ifnull n, l, a, b, z, w) K ls st m u = z_r1 st fun h st => z_br (h = none) (J a ls st m u) (K ls st m u) := id rfl
theorem zx_ifnonnull {n : Int} : z_ex C Q B rt dp sc J pc (.ifnonnull n, l, a, b, z, w) K ls st m u = z_r1 st fun h st => z_br (h = none) (K ls st m u) (J a ls st m u) := id rfl
theorem zx_tsw {n lo hi : Int} {offs : Array Int} : z_ex C Q B rt dp sc J pc (.tableswitch n lo hi offs, l, a, b, z, w) K ls st m u = z_p1 st fun x st => ((x.toInt < lo ∨ hi < x.toInt) → J a ls st m u) ∧ z_sw (fun t => J t ls st m u) pc x.toInt lo offs.toList := id rfl
theorem zx_getf {n : Nat} : z_ex C Q B rt dp sc J pc (.getfield n, l, a, b, z, w) K ls st m u = z_h1 st fun h st => z_ok (Nat.beq h.1 a) (K ls (z_gf m h b :: st) m u) := id rfl
theorem zx_putf {n : Nat} {v : zV} {st : List zV} : z_ex C Q B rt dp sc J pc (.putfield n, l, a, b, z, w) K ls (v :: st) m u = z_h1 st fun h st => z_ok (Nat.beq h.1 a) (z_pf m h b v fun m => K ls st m u) := id rfl
theorem zx_iald : z_ex C Q B rt dp sc J pc (.iaload, l, a, b, z, w) K ls st m u = z_a1 st fun i h st => z_on (z_is sc h.1) fun n => vp_in i n ∧ K ls (zi (z_iv sc m h i.toNatClampNeg) :: st) m u := id rfl
theorem zx_lald : z_ex C Q B rt dp sc J pc (.laload, l, a, b, z, w) K ls st m u = z_a1 st fun i h st => z_on (z_lk h.1) fun n => vp_in i n ∧ K ls (zl (z_J (z_g m h.2.1) h.1 h.2.2 i.toNatClampNeg) :: st) m u := id rfl
theorem zx_bald : z_ex C Q B rt dp sc J pc (.baload, l, a, b, z, w) K ls st m u = z_a1 st fun i h st => z_ok (Nat.beq h.1 29) (vp_in i 2 ∧ K ls (zi (z_I (z_g m h.2.1) h.1 h.2.2 i.toNatClampNeg) :: st) m u) := id rfl
theorem zx_iast : z_ex C Q B rt dp sc J pc (.iastore, l, a, b, z, w) K ls st m u = z_p1 st fun v st => z_a1 st fun i h st => z_on (z_ik h.1) fun n => vp_in i n ∧ K ls st (z_s m h.2.1 (z_uI (z_g m h.2.1) h.1 h.2.2 i.toNatClampNeg v)) u := id rfl
theorem zx_last : z_ex C Q B rt dp sc J pc (.lastore, l, a, b, z, w) K ls st m u = z_q1 st fun v st => z_a1 st fun i h st => z_on (z_lk h.1) fun n => vp_in i n ∧ K ls st (z_s m h.2.1 (z_uJ (z_g m h.2.1) h.1 h.2.2 i.toNatClampNeg v)) u := id rfl
theorem zx_bast : z_ex C Q B rt dp sc J pc (.bastore, l, a, b, z, w) K ls st m u = z_p1 st fun v st => z_a1 st fun i h st => z_ok (Nat.beq h.1 29) (vp_in i 2 ∧ v = 1 ∧ K ls st (z_s m h.2.1 (z_uI (z_g m h.2.1) h.1 h.2.2 i.toNatClampNeg 1)) u) := id rfl
theorem zx_aald_7 {i : Int32} {h : Nat × Nat} {st : List zV} : z_ex C Q B rt dp sc J pc (.aaload, l, a, b, z, w) K ls (zi i :: zr (some (7, h)) :: st) m u = (vp_in i 4 ∧ K ls (zr (some (1, h.1, i.toNatClampNeg)) :: st) m u) := id rfl
theorem zx_aald_8 {i : Int32} {h : Nat × Nat} {st : List zV} : z_ex C Q B rt dp sc J pc (.aaload, l, a, b, z, w) K ls (zi i :: zr (some (8, h)) :: st) m u = (vp_in i 6 ∧ K ls (zr (some (4, h.1, i.toNatClampNeg)) :: st) m u) := id rfl
theorem zx_aald_9 {i : Int32} {h : Nat × Nat} {st : List zV} : z_ex C Q B rt dp sc J pc (.aaload, l, a, b, z, w) K ls (zi i :: zr (some (9, h)) :: st) m u = (vp_in i 5 ∧ K ls (zr (some (2, h.1, i.toNatClampNeg)) :: st) m u) := id rfl
theorem zx_aald_10 {i : Int32} {h : Nat × Nat} {st : List zV} : z_ex C Q B rt dp sc J pc (.aaload, l, a, b, z, w) K ls (zi i :: zr (some (10, h)) :: st) m u = (vp_in i 40 ∧ K ls (zr (some (3, h.1, i.toNatClampNeg)) :: st) m u) := id rfl
theorem zx_aald_17 {i : Int32} {h : Nat × Nat} {st : List zV} : z_ex C Q B rt dp sc J pc (.aaload, l, a, b, z, w) K ls (zi i :: zr (some (17, h)) :: st) m u = (vp_in i 2 ∧ K ls (z_bk (z_d m (1 + i.toNatClampNeg)) :: st) m u) := id rfl
theorem zx_aast_17 {i : Int32} {h : Nat × Nat} {g : Nat × Nat} {st : List zV} : z_ex C Q B rt dp sc J pc (.aastore, l, a, b, z, w) K ls (zr (some (0, g)) :: zi i :: zr (some (17, h)) :: st) m u = (vp_in i 2 ∧ K ls st (z_sd m (1 + i.toNatClampNeg) (some g.1)) u) := id rfl
theorem zx_aald_18 {i : Int32} {h : Nat × Nat} {st : List zV} : z_ex C Q B rt dp sc J pc (.aaload, l, a, b, z, w) K ls (zi i :: zr (some (18, h)) :: st) m u = (vp_in i 8 ∧ K ls (z_bk (z_d m (3 + i.toNatClampNeg)) :: st) m u) := id rfl
theorem zx_aast_18 {i : Int32} {h : Nat × Nat} {g : Nat × Nat} {st : List zV} : z_ex C Q B rt dp sc J pc (.aastore, l, a, b, z, w) K ls (zr (some (0, g)) :: zi i :: zr (some (18, h)) :: st) m u = (vp_in i 8 ∧ K ls st (z_sd m (3 + i.toNatClampNeg) (some g.1)) u) := id rfl
theorem zx_alen : z_ex C Q B rt dp sc J pc (.arraylength, l, a, b, z, w) K ls st m u = z_h1 st fun h st => z_ok (Nat.beq h.1 34) (z_on (sc.map fun q => q.1) fun n => K ls (zi (nI n) :: st) m u) := id rfl
theorem zx_inv {n : Nat} : z_ex C Q B rt dp sc J pc (.invokevirtual n, l, a, b, z, w) K ls st m u = z_po (b + 1) st fun as st => z_ok (z_sh st 4) (z_rc as (z_mK a) (z_ok (Nat.ble (u + z_mB a) B) (C a as m fun r m => K ls (z_psh r st) m (u + z_mB a)))) := id rfl
theorem zx_invs_13 {n : Nat} : z_ex C Q B rt dp sc J pc (.invokestatic n, l, 13, b, z, w) K ls st m u = z_po b st fun as st => z_ok (z_sh st 4) (z_ok (Nat.ble (u + z_mB 13) B) (C 13 as m fun r m => K ls (z_psh r st) m (u + z_mB 13))) := id rfl
theorem zx_invs_71 {n : Nat} : z_ex C Q B rt dp sc J pc (.invokestatic n, l, 71, b, z, w) K ls st m u = z_po b st fun as st => z_ok (z_sh st 4) (z_ok (Nat.ble (u + z_mB 71) B) (C 71 as m fun r m => K ls (z_psh r st) m (u + z_mB 71))) := id rfl
theorem zx_invs_81 {n : Nat} : z_ex C Q B rt dp sc J pc (.invokestatic n, l, 81, b, z, w) K ls st m u = z_po b st fun as st => z_ok (z_sh st 4) (z_ok (Nat.ble (u + z_mB 81) B) (C 81 as m fun r m => K ls (z_psh r st) m (u + z_mB 81))) := id rfl
theorem zx_invs_130 {n : Nat} : z_ex C Q B rt dp sc J pc (.invokestatic n, l, 130, b, z, w) K ls st m u = z_po b st fun as st => z_ok (z_sh st 4) (z_ok (Nat.ble (u + z_mB 130) B) (C 130 as m fun r m => K ls (z_psh r st) m (u + z_mB 130))) := id rfl
theorem zx_invs_135 {n : Nat} : z_ex C Q B rt dp sc J pc (.invokestatic n, l, 135, b, z, w) K ls st m u = z_po b st fun as st => z_ok (z_sh st 4) (z_ok (Nat.ble (u + z_mB 135) B) (C 135 as m fun r m => K ls (z_psh r st) m (u + z_mB 135))) := id rfl
theorem zx_invs_138 {n : Nat} : z_ex C Q B rt dp sc J pc (.invokestatic n, l, 138, b, z, w) K ls st m u = z_po b st fun as st => z_ok (z_sh st 4) (z_ok (Nat.ble (u + z_mB 138) B) (C 138 as m fun r m => K ls (z_psh r st) m (u + z_mB 138))) := id rfl
theorem zx_invs_142 {n : Nat} : z_ex C Q B rt dp sc J pc (.invokestatic n, l, 142, b, z, w) K ls st m u = z_po b st fun as st => z_ok (z_sh st 4) (z_ok (Nat.ble (u + z_mB 142) B) (C 142 as m fun r m => K ls (z_psh r st) m (u + z_mB 142))) := id rfl
theorem zx_invs_144 {n : Nat} : z_ex C Q B rt dp sc J pc (.invokestatic n, l, 144, b, z, w) K ls st m u = z_po b st fun as st => z_ok (z_sh st 4) (z_ok (Nat.ble (u + z_mB 144) B) (C 144 as m fun r m => K ls (z_psh r st) m (u + z_mB 144))) := id rfl
theorem zx_invs_147 {n : Nat} : z_ex C Q B rt dp sc J pc (.invokestatic n, l, 147, b, z, w) K ls st m u = z_po b st fun as st => z_ok (z_sh st 4) (z_ok (Nat.ble (u + z_mB 147) B) (C 147 as m fun r m => K ls (z_psh r st) m (u + z_mB 147))) := id rfl
theorem zx_invs_149 {n : Nat} : z_ex C Q B rt dp sc J pc (.invokestatic n, l, 149, b, z, w) K ls st m u = z_po b st fun as st => z_ok (z_sh st 4) (z_ok (Nat.ble (u + z_mB 149) B) (C 149 as m fun r m => K ls (z_psh r st) m (u + z_mB 149))) := id rfl
theorem zx_invs_160 {n : Nat} : z_ex C Q B rt dp sc J pc (.invokestatic n, l, 160, b, z, w) K ls st m u = z_po b st fun as st => z_ok (z_sh st 4) (z_ok (Nat.ble (u + z_mB 160) B) (C 160 as m fun r m => K ls (z_psh r st) m (u + z_mB 160))) := id rfl
theorem zx_invs_218 {n : Nat} : z_ex C Q B rt dp sc J pc (.invokestatic n, l, 218, b, z, w) K ls st m u = z_po b st fun as st => z_ok (z_sh st 4) (z_ok (Nat.ble (u + z_mB 218) B) (C 218 as m fun r m => K ls (z_psh r st) m (u + z_mB 218))) := id rfl
theorem zx_invs_228 {n : Nat} : z_ex C Q B rt dp sc J pc (.invokestatic n, l, 228, b, z, w) K ls st m u = z_po b st fun as st => z_ok (z_sh st 4) (z_ok (Nat.ble (u + z_mB 228) B) (C 228 as m fun r m => K ls (z_psh r st) m (u + z_mB 228))) := id rfl
theorem zx_cpy {n : Nat} : z_ex C Q B rt dp sc J pc (.invokestatic n, l, 999, b, z, w) K ls st m u = z_po 5 st fun as st => z_ok (z_sh st 4) (z_ac m as fun m => K ls st m u) := id rfl
theorem zx_max {n : Nat} : z_ex C Q B rt dp sc J pc (.invokestatic n, l, 226, b, z, w) K ls st m u = z_p2 st fun x y st => z_ok (z_sh st 4) (K ls (zi (if x < y then y else x) :: st) m u) := id rfl
theorem zx_min {n : Nat} : z_ex C Q B rt dp sc J pc (.invokestatic n, l, 227, b, z, w) K ls st m u = z_p2 st fun x y st => z_ok (z_sh st 4) (K ls (zi (if y < x then y else x) :: st) m u) := id rfl
theorem zx_new {n : Nat} : z_ex C Q B rt dp sc J pc (.new n, l, a, b, z, w) K ls st m u = z_ok ((Nat.ble (u + 1) B && Nat.ble 2 dp) && z_sh st 1) (K ls (zr (some (0, z_nb m, 0)) :: st) (z_nw m) (u + 1)) := id rfl
theorem zx_iret : z_ex C Q B rt dp sc J pc (.ireturn, l, a, b, z, w) K ls st m u = z_ri st rt fun r => Q r m := id rfl
theorem zx_lret : z_ex C Q B rt dp sc J pc (.lreturn, l, a, b, z, w) K ls st m u = z_rl st rt fun r => Q r m := id rfl
theorem zx_aret : z_ex C Q B rt dp sc J pc (.areturn, l, a, b, z, w) K ls st m u = z_ra st rt fun r => Q r m := id rfl
theorem zx_ret : z_ex C Q B rt dp sc J pc (.return_, l, a, b, z, w) K ls st m u = z_rv st rt (Q none m) := id rfl
theorem zp_li {x : Int32} {K : Int32 → Prop} : z_li (some (zi x)) K = K x := id rfl
theorem zp_ll {x : Int64} {K : Int64 → Prop} : z_ll (some (zl x)) K = K x := id rfl
theorem zp_lr {x : Option (Nat × Nat × Nat)} {K : Option (Nat × Nat × Nat) → Prop} : z_lr (some (zr x)) K = K x := id rfl
theorem zp_p1 {x : Int32} {st : List zV} {K : Int32 → List zV → Prop} : z_p1 (zi x :: st) K = K x st := id rfl
theorem zp_p2 {x y : Int32} {st : List zV} {K : Int32 → Int32 → List zV → Prop} : z_p2 (zi y :: zi x :: st) K = K x y st := id rfl
theorem zp_q1 {x : Int64} {st : List zV} {K : Int64 → List zV → Prop} : z_q1 (zl x :: st) K = K x st := id rfl
theorem zp_q2 {x y : Int64} {st : List zV} {K : Int64 → Int64 → List zV → Prop} : z_q2 (zl y :: zl x :: st) K = K x y st := id rfl
theorem zp_r1 {x : Option (Nat × Nat × Nat)} {st : List zV} {K : Option (Nat × Nat × Nat) → List zV → Prop} : z_r1 (zr x :: st) K = K x st := id rfl
theorem zp_h1 {x : Nat × Nat × Nat} {st : List zV} {K : (Nat × Nat × Nat) → List zV → Prop} : z_h1 (zr (some x) :: st) K = K x st := id rfl
theorem zp_a1 {i : Int32} {x : Nat × Nat × Nat} {st : List zV} {K : Int32 → (Nat × Nat × Nat) → List zV → Prop} : z_a1 (zi i :: zr (some x) :: st) K = K i x st := id rfl
theorem zp_c1i {x : Int32} {K : Prop} : z_c1 (zi x) K = K := id rfl
theorem zp_c1r {x : Option (Nat × Nat × Nat)} {K : Prop} : z_c1 (zr x) K = K := id rfl
theorem zp_okt {K : Prop} : z_ok true K = K := id rfl
theorem zp_okb {n : Nat} {K : Prop} : z_ok (Nat.beq n n) K = K := by rw [Nat.beq_refl]; rfl
theorem zp_okl {n k : Nat} {K : Prop} (h : n ≤ k) : z_ok (Nat.ble n k) K = K := by rw [Nat.ble_eq_true_of_le h]; rfl
theorem zp_on {n : Nat} {K : Nat → Prop} : z_on (some n) K = K n := id rfl
theorem zp_sh0 {n : Nat} : z_sh [] n = true := id rfl
theorem zp_sh1 {n : Nat} {v : zV} {l : List zV} : z_sh (v :: l) (n + 1) = z_sh l n := id rfl
theorem zp_ld0 {v : Option zV} {l : zL} : z_ld (v :: l) 0 = v := id rfl
theorem zp_ld1 {v : Option zV} {l : zL} {n : Nat} : z_ld (v :: l) (n + 1) = z_ld l n := id rfl
theorem zp_st0 {v : Option zV} {l : zL} {x : zV} : z_st (v :: l) 0 x = some x :: l := id rfl
theorem zp_st1 {v : Option zV} {l : zL} {x : zV} : z_st (v :: l) 1 x = z_nl v :: z_st l 0 x := id rfl
theorem zp_st2 {v : Option zV} {l : zL} {x : zV} {n : Nat} : z_st (v :: l) (n + 2) x = v :: z_st l (n + 1) x := id rfl
theorem zp_nln : z_nl none = none := id rfl
theorem zp_nli {x : Int32} : z_nl (some (zi x)) = some (zi x) := id rfl
theorem zp_nlr {x : Option (Nat × Nat × Nat)} : z_nl (some (zr x)) = some (zr x) := id rfl
theorem zp_nll {x : Int64} : z_nl (some (zl x)) = none := id rfl
theorem zp_lc0 {v : Option zV} {l : zL} : z_lc (v :: l) 0 = none :: l := id rfl
theorem zp_lc1 {v : Option zV} {l : zL} {n : Nat} : z_lc (v :: l) (n + 1) = v :: z_lc l n := id rfl
theorem zp_po0 {st : List zV} {K : List zV → List zV → Prop} : z_po 0 st K = K [] st := id rfl
theorem zp_po1 {v0 : zV} {st : List zV} {K : List zV → List zV → Prop} : z_po 1 (v0 :: st) K = K [v0] st := id rfl
theorem zp_po2 {v0 v1 : zV} {st : List zV} {K : List zV → List zV → Prop} : z_po 2 (v1 :: v0 :: st) K = K [v0, v1] st := id rfl
theorem zp_po3 {v0 v1 v2 : zV} {st : List zV} {K : List zV → List zV → Prop} : z_po 3 (v2 :: v1 :: v0 :: st) K = K [v0, v1, v2] st := id rfl
theorem zp_po4 {v0 v1 v2 v3 : zV} {st : List zV} {K : List zV → List zV → Prop} : z_po 4 (v3 :: v2 :: v1 :: v0 :: st) K = K [v0, v1, v2, v3] st := id rfl
theorem zp_po5 {v0 v1 v2 v3 v4 : zV} {st : List zV} {K : List zV → List zV → Prop} : z_po 5 (v4 :: v3 :: v2 :: v1 :: v0 :: st) K = K [v0, v1, v2, v3, v4] st := id rfl
theorem zp_po6 {v0 v1 v2 v3 v4 v5 : zV} {st : List zV} {K : List zV → List zV → Prop} : z_po 6 (v5 :: v4 :: v3 :: v2 :: v1 :: v0 :: st) K = K [v0, v1, v2, v3, v4, v5] st := id rfl
theorem zp_po7 {v0 v1 v2 v3 v4 v5 v6 : zV} {st : List zV} {K : List zV → List zV → Prop} : z_po 7 (v6 :: v5 :: v4 :: v3 :: v2 :: v1 :: v0 :: st) K = K [v0, v1, v2, v3, v4, v5, v6] st := id rfl
theorem zp_rc {k k2 r i : Nat} {l : List zV} {K : Prop} : z_rc (zr (some (k, r, i)) :: l) k2 K = z_ok (Nat.beq k k2) K := id rfl
theorem zp_psn {st : List zV} : z_psh none st = st := id rfl
theorem zp_pss {v : zV} {st : List zV} : z_psh (some v) st = v :: st := id rfl
theorem zp_ri1 {x : Int32} {Q : Option zV → Prop} : z_ri [zi x] 1 Q = Q (some (zi x)) := id rfl
theorem zp_ri2 {x : Int32} {Q : Option zV → Prop} : z_ri [zi x] 2 Q = ((x = 0 ∨ x = 1) ∧ Q (some (zi x))) := id rfl
theorem zp_ri20 {Q : Option zV → Prop} : z_ri [zi 0] 2 Q = Q (some (zi 0)) := by simp [zp_ri2]
theorem zp_ri21 {Q : Option zV → Prop} : z_ri [zi 1] 2 Q = Q (some (zi 1)) := by simp [zp_ri2]
theorem zp_rl {x : Int64} {Q : Option zV → Prop} : z_rl [zl x] 3 Q = Q (some (zl x)) := id rfl
theorem zp_ra {x : Nat × Nat × Nat} {Q : Option zV → Prop} : z_ra [zr (some x)] 4 Q = Q (some (zr (some x))) := id rfl
theorem zp_rv {Q : Prop} : z_rv [] 0 Q = Q := id rfl
theorem zp_en0 : z_ent [] = [] := id rfl
theorem zp_eni {x : Int32} {l : List zV} : z_ent (zi x :: l) = some (zi x) :: z_ent l := id rfl
theorem zp_enl {x : Int64} {l : List zV} : z_ent (zl x :: l) = some (zl x) :: none :: z_ent l := id rfl
theorem zp_enr {x : Option (Nat × Nat × Nat)} {l : List zV} : z_ent (zr x :: l) = some (zr x) :: z_ent l := id rfl
theorem zp_pad {n : Nat} {l : zL} : z_pad n l = l ++ List.replicate (n - l.length) none := id rfl
theorem zp_br {c A B : Prop} [Decidable c] : z_br c A B = if c then A else B := by unfold z_br; by_cases h : c <;> simp [h]
theorem zg_0_0 : z_gf m (0, r, i) 0 = zi (z_I (z_g m r) 0 i 0) := id rfl
theorem zf_0_0 {x : Int32} {K : zM → Prop} : z_pf m (0, r, i) 0 (zi x) K = K (z_s m r (z_uI (z_g m r) 0 i 0 x)) := id rfl
theorem zg_0_1 : z_gf m (0, r, i) 1 = zi (z_I (z_g m r) 0 i 1) := id rfl
theorem zf_0_1 {x : Int32} {K : zM → Prop} : z_pf m (0, r, i) 1 (zi x) K = K (z_s m r (z_uI (z_g m r) 0 i 1 x)) := id rfl
theorem zg_0_2 : z_gf m (0, r, i) 2 = zi (z_I (z_g m r) 0 i 2) := id rfl
theorem zf_0_2 {x : Int32} {K : zM → Prop} : z_pf m (0, r, i) 2 (zi x) K = K (z_s m r (z_uI (z_g m r) 0 i 2 x)) := id rfl
theorem zg_0_3 : z_gf m (0, r, i) 3 = zi (z_I (z_g m r) 0 i 3) := id rfl
theorem zf_0_3 {x : Int32} {K : zM → Prop} : z_pf m (0, r, i) 3 (zi x) K = K (z_s m r (z_uI (z_g m r) 0 i 3 x)) := id rfl
theorem zg_0_4 : z_gf m (0, r, i) 4 = zi (z_I (z_g m r) 0 i 4) := id rfl
theorem zf_0_4 {x : Int32} {K : zM → Prop} : z_pf m (0, r, i) 4 (zi x) K = K (z_s m r (z_uI (z_g m r) 0 i 4 x)) := id rfl
theorem zg_0_5 : z_gf m (0, r, i) 5 = zi (z_I (z_g m r) 0 i 5) := id rfl
theorem zf_0_5 {x : Int32} {K : zM → Prop} : z_pf m (0, r, i) 5 (zi x) K = K (z_s m r (z_uI (z_g m r) 0 i 5 x)) := id rfl
theorem zg_0_6 : z_gf m (0, r, i) 6 = zr (some (7, r, i)) := id rfl
theorem zg_0_7 : z_gf m (0, r, i) 7 = zr (some (8, r, i)) := id rfl
theorem zg_0_8 : z_gf m (0, r, i) 8 = zr (some (9, r, i)) := id rfl
theorem zg_0_9 : z_gf m (0, r, i) 9 = zr (some (10, r, i)) := id rfl
theorem zg_0_10 : z_gf m (0, r, i) 10 = zr (some (11, r, i)) := id rfl
theorem zg_0_11 : z_gf m (0, r, i) 11 = zi (z_I (z_g m r) 0 i 11) := id rfl
theorem zf_0_11 {x : Int32} {K : zM → Prop} : z_pf m (0, r, i) 11 (zi x) K = K (z_s m r (z_uI (z_g m r) 0 i 11 x)) := id rfl
theorem zg_1_0 : z_gf m (1, r, i) 0 = zi (z_I (z_g m r) 1 i 0) := id rfl
theorem zf_1_0 {x : Int32} {K : zM → Prop} : z_pf m (1, r, i) 0 (zi x) K = K (z_s m r (z_uI (z_g m r) 1 i 0 x)) := id rfl
theorem zg_1_1 : z_gf m (1, r, i) 1 = zi (z_I (z_g m r) 1 i 1) := id rfl
theorem zf_1_1 {x : Int32} {K : zM → Prop} : z_pf m (1, r, i) 1 (zi x) K = K (z_s m r (z_uI (z_g m r) 1 i 1 x)) := id rfl
theorem zg_1_2 : z_gf m (1, r, i) 2 = zi (z_I (z_g m r) 1 i 2) := id rfl
theorem zf_1_2 {x : Int32} {K : zM → Prop} : z_pf m (1, r, i) 2 (zi x) K = K (z_s m r (z_uI (z_g m r) 1 i 2 x)) := id rfl
theorem zg_1_3 : z_gf m (1, r, i) 3 = zl (z_J (z_g m r) 1 i 3) := id rfl
theorem zf_1_3 {x : Int64} {K : zM → Prop} : z_pf m (1, r, i) 3 (zl x) K = K (z_s m r (z_uJ (z_g m r) 1 i 3 x)) := id rfl
theorem zg_1_4 : z_gf m (1, r, i) 4 = zl (z_J (z_g m r) 1 i 4) := id rfl
theorem zf_1_4 {x : Int64} {K : zM → Prop} : z_pf m (1, r, i) 4 (zl x) K = K (z_s m r (z_uJ (z_g m r) 1 i 4 x)) := id rfl
theorem zg_2_0 : z_gf m (2, r, i) 0 = zr (some (12, r, i)) := id rfl
theorem zg_2_1 : z_gf m (2, r, i) 1 = zr (some (13, r, i)) := id rfl
theorem zg_2_2 : z_gf m (2, r, i) 2 = zi (z_I (z_g m r) 2 i 2) := id rfl
theorem zf_2_2 {x : Int32} {K : zM → Prop} : z_pf m (2, r, i) 2 (zi x) K = K (z_s m r (z_uI (z_g m r) 2 i 2 x)) := id rfl
theorem zg_2_3 : z_gf m (2, r, i) 3 = zi (z_I (z_g m r) 2 i 3) := id rfl
theorem zf_2_3 {x : Int32} {K : zM → Prop} : z_pf m (2, r, i) 3 (zi x) K = K (z_s m r (z_uI (z_g m r) 2 i 3 x)) := id rfl
theorem zg_2_4 : z_gf m (2, r, i) 4 = zi (z_I (z_g m r) 2 i 4) := id rfl
theorem zf_2_4 {x : Int32} {K : zM → Prop} : z_pf m (2, r, i) 4 (zi x) K = K (z_s m r (z_uI (z_g m r) 2 i 4 x)) := id rfl
theorem zg_3_0 : z_gf m (3, r, i) 0 = zi (z_I (z_g m r) 3 i 0) := id rfl
theorem zf_3_0 {x : Int32} {K : zM → Prop} : z_pf m (3, r, i) 0 (zi x) K = K (z_s m r (z_uI (z_g m r) 3 i 0 x)) := id rfl
theorem zg_3_1 : z_gf m (3, r, i) 1 = zi (z_I (z_g m r) 3 i 1) := id rfl
theorem zf_3_1 {x : Int32} {K : zM → Prop} : z_pf m (3, r, i) 1 (zi x) K = K (z_s m r (z_uI (z_g m r) 3 i 1 x)) := id rfl
theorem zg_3_2 : z_gf m (3, r, i) 2 = zi (z_I (z_g m r) 3 i 2) := id rfl
theorem zf_3_2 {x : Int32} {K : zM → Prop} : z_pf m (3, r, i) 2 (zi x) K = K (z_s m r (z_uI (z_g m r) 3 i 2 x)) := id rfl
theorem zg_3_3 : z_gf m (3, r, i) 3 = zi (z_I (z_g m r) 3 i 3) := id rfl
theorem zf_3_3 {x : Int32} {K : zM → Prop} : z_pf m (3, r, i) 3 (zi x) K = K (z_s m r (z_uI (z_g m r) 3 i 3 x)) := id rfl
theorem zg_3_4 : z_gf m (3, r, i) 4 = zi (z_I (z_g m r) 3 i 4) := id rfl
theorem zf_3_4 {x : Int32} {K : zM → Prop} : z_pf m (3, r, i) 4 (zi x) K = K (z_s m r (z_uI (z_g m r) 3 i 4 x)) := id rfl
theorem zg_3_5 : z_gf m (3, r, i) 5 = zi (z_I (z_g m r) 3 i 5) := id rfl
theorem zf_3_5 {x : Int32} {K : zM → Prop} : z_pf m (3, r, i) 5 (zi x) K = K (z_s m r (z_uI (z_g m r) 3 i 5 x)) := id rfl
theorem zg_3_6 : z_gf m (3, r, i) 6 = zi (z_I (z_g m r) 3 i 6) := id rfl
theorem zf_3_6 {x : Int32} {K : zM → Prop} : z_pf m (3, r, i) 6 (zi x) K = K (z_s m r (z_uI (z_g m r) 3 i 6 x)) := id rfl
theorem zg_3_7 : z_gf m (3, r, i) 7 = zi (z_I (z_g m r) 3 i 7) := id rfl
theorem zf_3_7 {x : Int32} {K : zM → Prop} : z_pf m (3, r, i) 7 (zi x) K = K (z_s m r (z_uI (z_g m r) 3 i 7 x)) := id rfl
theorem zg_3_8 : z_gf m (3, r, i) 8 = zi (z_I (z_g m r) 3 i 8) := id rfl
theorem zf_3_8 {x : Int32} {K : zM → Prop} : z_pf m (3, r, i) 8 (zi x) K = K (z_s m r (z_uI (z_g m r) 3 i 8 x)) := id rfl
theorem zg_3_9 : z_gf m (3, r, i) 9 = zi (z_I (z_g m r) 3 i 9) := id rfl
theorem zf_3_9 {x : Int32} {K : zM → Prop} : z_pf m (3, r, i) 9 (zi x) K = K (z_s m r (z_uI (z_g m r) 3 i 9 x)) := id rfl
theorem zg_3_10 : z_gf m (3, r, i) 10 = zi (z_I (z_g m r) 3 i 10) := id rfl
theorem zf_3_10 {x : Int32} {K : zM → Prop} : z_pf m (3, r, i) 10 (zi x) K = K (z_s m r (z_uI (z_g m r) 3 i 10 x)) := id rfl
theorem zg_3_11 : z_gf m (3, r, i) 11 = zi (z_I (z_g m r) 3 i 11) := id rfl
theorem zf_3_11 {x : Int32} {K : zM → Prop} : z_pf m (3, r, i) 11 (zi x) K = K (z_s m r (z_uI (z_g m r) 3 i 11 x)) := id rfl
theorem zg_3_12 : z_gf m (3, r, i) 12 = zi (z_I (z_g m r) 3 i 12) := id rfl
theorem zf_3_12 {x : Int32} {K : zM → Prop} : z_pf m (3, r, i) 12 (zi x) K = K (z_s m r (z_uI (z_g m r) 3 i 12 x)) := id rfl
theorem zg_3_13 : z_gf m (3, r, i) 13 = zl (z_J (z_g m r) 3 i 13) := id rfl
theorem zf_3_13 {x : Int64} {K : zM → Prop} : z_pf m (3, r, i) 13 (zl x) K = K (z_s m r (z_uJ (z_g m r) 3 i 13 x)) := id rfl
theorem zg_3_14 : z_gf m (3, r, i) 14 = zl (z_J (z_g m r) 3 i 14) := id rfl
theorem zf_3_14 {x : Int64} {K : zM → Prop} : z_pf m (3, r, i) 14 (zl x) K = K (z_s m r (z_uJ (z_g m r) 3 i 14 x)) := id rfl
theorem zg_3_15 : z_gf m (3, r, i) 15 = zr (some (14, r, i)) := id rfl
theorem zg_4_0 : z_gf m (4, r, i) 0 = zr (some (15, r, i)) := id rfl
theorem zg_4_1 : z_gf m (4, r, i) 1 = zr (some (16, r, i)) := id rfl
theorem zg_4_2 : z_gf m (4, r, i) 2 = zi (z_I (z_g m r) 4 i 2) := id rfl
theorem zf_4_2 {x : Int32} {K : zM → Prop} : z_pf m (4, r, i) 2 (zi x) K = K (z_s m r (z_uI (z_g m r) 4 i 2 x)) := id rfl
theorem zg_5_0 : z_gf m (5, r, i) 0 = zr (some (0, 2, i)) := id rfl
theorem zg_5_1 : z_gf m (5, r, i) 1 = z_bk (z_d m 0) := id rfl
theorem zf_5_1 {g : Nat × Nat} {K : zM → Prop} : z_pf m (5, r, i) 1 (zr (some (0, g))) K = K (z_sd m 0 (some g.1)) := id rfl
theorem zg_5_2 : z_gf m (5, r, i) 2 = zr (some (17, r, i)) := id rfl
theorem zg_5_3 : z_gf m (5, r, i) 3 = zr (some (18, r, i)) := id rfl
theorem zg_5_4 : z_gf m (5, r, i) 4 = zr (some (19, r, i)) := id rfl
theorem zg_5_5 : z_gf m (5, r, i) 5 = zi (z_I (z_g m r) 5 i 5) := id rfl
theorem zf_5_5 {x : Int32} {K : zM → Prop} : z_pf m (5, r, i) 5 (zi x) K = K (z_s m r (z_uI (z_g m r) 5 i 5 x)) := id rfl
theorem zg_5_6 : z_gf m (5, r, i) 6 = zi (z_I (z_g m r) 5 i 6) := id rfl
theorem zf_5_6 {x : Int32} {K : zM → Prop} : z_pf m (5, r, i) 6 (zi x) K = K (z_s m r (z_uI (z_g m r) 5 i 6 x)) := id rfl
theorem zg_5_7 : z_gf m (5, r, i) 7 = zi (z_I (z_g m r) 5 i 7) := id rfl
theorem zf_5_7 {x : Int32} {K : zM → Prop} : z_pf m (5, r, i) 7 (zi x) K = K (z_s m r (z_uI (z_g m r) 5 i 7 x)) := id rfl
theorem zg_5_8 : z_gf m (5, r, i) 8 = zi (z_I (z_g m r) 5 i 8) := id rfl
theorem zf_5_8 {x : Int32} {K : zM → Prop} : z_pf m (5, r, i) 8 (zi x) K = K (z_s m r (z_uI (z_g m r) 5 i 8 x)) := id rfl
theorem zg_5_9 : z_gf m (5, r, i) 9 = zi (z_I (z_g m r) 5 i 9) := id rfl
theorem zf_5_9 {x : Int32} {K : zM → Prop} : z_pf m (5, r, i) 9 (zi x) K = K (z_s m r (z_uI (z_g m r) 5 i 9 x)) := id rfl
theorem zg_5_10 : z_gf m (5, r, i) 10 = zi (z_I (z_g m r) 5 i 10) := id rfl
theorem zf_5_10 {x : Int32} {K : zM → Prop} : z_pf m (5, r, i) 10 (zi x) K = K (z_s m r (z_uI (z_g m r) 5 i 10 x)) := id rfl
theorem zg_5_11 : z_gf m (5, r, i) 11 = zi (z_I (z_g m r) 5 i 11) := id rfl
theorem zf_5_11 {x : Int32} {K : zM → Prop} : z_pf m (5, r, i) 11 (zi x) K = K (z_s m r (z_uI (z_g m r) 5 i 11 x)) := id rfl
theorem zg_5_12 : z_gf m (5, r, i) 12 = zr (some (20, r, i)) := id rfl
theorem zg_6_0 : z_gf m (6, r, i) 0 = zi (z_I (z_g m r) 6 i 0) := id rfl
theorem zf_6_0 {x : Int32} {K : zM → Prop} : z_pf m (6, r, i) 0 (zi x) K = K (z_s m r (z_uI (z_g m r) 6 i 0 x)) := id rfl
theorem zg_6_1 : z_gf m (6, r, i) 1 = zi (z_I (z_g m r) 6 i 1) := id rfl
theorem zf_6_1 {x : Int32} {K : zM → Prop} : z_pf m (6, r, i) 1 (zi x) K = K (z_s m r (z_uI (z_g m r) 6 i 1 x)) := id rfl
theorem zg_6_2 : z_gf m (6, r, i) 2 = zr (some (21, r, i)) := id rfl
theorem zg_6_3 : z_gf m (6, r, i) 3 = zr (some (22, r, i)) := id rfl
theorem zg_6_4 : z_gf m (6, r, i) 4 = zr (some (23, r, i)) := id rfl
theorem zg_6_5 : z_gf m (6, r, i) 5 = zr (some (24, r, i)) := id rfl
theorem zg_6_6 : z_gf m (6, r, i) 6 = zr (some (25, r, i)) := id rfl
theorem zg_6_7 : z_gf m (6, r, i) 7 = zr (some (26, r, i)) := id rfl
theorem zg_6_8 : z_gf m (6, r, i) 8 = zi (z_I (z_g m r) 6 i 8) := id rfl
theorem zf_6_8 {x : Int32} {K : zM → Prop} : z_pf m (6, r, i) 8 (zi x) K = K (z_s m r (z_uI (z_g m r) 6 i 8 x)) := id rfl
theorem zg_6_9 : z_gf m (6, r, i) 9 = zr (some (27, r, i)) := id rfl
theorem zg_6_10 : z_gf m (6, r, i) 10 = zr (some (28, r, i)) := id rfl
theorem zg_6_11 : z_gf m (6, r, i) 11 = zr (some (29, r, i)) := id rfl
theorem zg_6_12 : z_gf m (6, r, i) 12 = zr (some (30, r, i)) := id rfl
theorem zg_6_13 : z_gf m (6, r, i) 13 = zr (some (31, r, i)) := id rfl
theorem zg_6_14 : z_gf m (6, r, i) 14 = zr (some (32, r, i)) := id rfl
theorem zg_6_15 : z_gf m (6, r, i) 15 = zi (z_I (z_g m r) 6 i 15) := id rfl
theorem zf_6_15 {x : Int32} {K : zM → Prop} : z_pf m (6, r, i) 15 (zi x) K = K (z_s m r (z_uI (z_g m r) 6 i 15 x)) := id rfl
theorem zg_6_16 : z_gf m (6, r, i) 16 = zr (some (33, r, i)) := id rfl
theorem zg_6_17 : z_gf m (6, r, i) 17 = zi (z_I (z_g m r) 6 i 17) := id rfl
theorem zf_6_17 {x : Int32} {K : zM → Prop} : z_pf m (6, r, i) 17 (zi x) K = K (z_s m r (z_uI (z_g m r) 6 i 17 x)) := id rfl
theorem zi_s_11 : z_is sc 11 = some 40 := id rfl
theorem zi_k_11 : z_ik 11 = some 40 := id rfl
theorem zi_v_11 {j : Nat} : z_iv sc m (11, r, i) j = z_I (z_g m r) 11 i j := id rfl
theorem zi_s_12 : z_is sc 12 = some 13 := id rfl
theorem zi_k_12 : z_ik 12 = some 13 := id rfl
theorem zi_v_12 {j : Nat} : z_iv sc m (12, r, i) j = z_I (z_g m r) 12 i j := id rfl
theorem zi_s_13 : z_is sc 13 = some 13 := id rfl
theorem zi_k_13 : z_ik 13 = some 13 := id rfl
theorem zi_v_13 {j : Nat} : z_iv sc m (13, r, i) j = z_I (z_g m r) 13 i j := id rfl
theorem zi_s_14 : z_is sc 14 = some 4 := id rfl
theorem zi_k_14 : z_ik 14 = some 4 := id rfl
theorem zi_v_14 {j : Nat} : z_iv sc m (14, r, i) j = z_I (z_g m r) 14 i j := id rfl
theorem zi_s_15 : z_is sc 15 = some 5 := id rfl
theorem zi_k_15 : z_ik 15 = some 5 := id rfl
theorem zi_v_15 {j : Nat} : z_iv sc m (15, r, i) j = z_I (z_g m r) 15 i j := id rfl
theorem zi_s_16 : z_is sc 16 = some 4 := id rfl
theorem zi_k_16 : z_ik 16 = some 4 := id rfl
theorem zi_v_16 {j : Nat} : z_iv sc m (16, r, i) j = z_I (z_g m r) 16 i j := id rfl
theorem zi_s_19 : z_is sc 19 = some 8 := id rfl
theorem zi_k_19 : z_ik 19 = some 8 := id rfl
theorem zi_v_19 {j : Nat} : z_iv sc m (19, r, i) j = z_I (z_g m r) 19 i j := id rfl
theorem zi_s_20 : z_is sc 20 = some 12 := id rfl
theorem zi_k_20 : z_ik 20 = some 12 := id rfl
theorem zi_v_20 {j : Nat} : z_iv sc m (20, r, i) j = z_I (z_g m r) 20 i j := id rfl
theorem zi_s_21 : z_is sc 21 = some 6 := id rfl
theorem zi_k_21 : z_ik 21 = some 6 := id rfl
theorem zi_v_21 {j : Nat} : z_iv sc m (21, r, i) j = z_I (z_g m r) 21 i j := id rfl
theorem zi_s_22 : z_is sc 22 = some 891 := id rfl
theorem zi_k_22 : z_ik 22 = some 891 := id rfl
theorem zi_v_22 {j : Nat} : z_iv sc m (22, r, i) j = z_I (z_g m r) 22 i j := id rfl
theorem zi_s_24 : z_is sc 24 = some 7128 := id rfl
theorem zi_k_24 : z_ik 24 = some 7128 := id rfl
theorem zi_v_24 {j : Nat} : z_iv sc m (24, r, i) j = z_I (z_g m r) 24 i j := id rfl
theorem zi_s_26 : z_is sc 26 = some 8 := id rfl
theorem zi_k_26 : z_ik 26 = some 8 := id rfl
theorem zi_v_26 {j : Nat} : z_iv sc m (26, r, i) j = z_I (z_g m r) 26 i j := id rfl
theorem zi_s_27 : z_is sc 27 = some 1782 := id rfl
theorem zi_k_27 : z_ik 27 = some 1782 := id rfl
theorem zi_v_27 {j : Nat} : z_iv sc m (27, r, i) j = z_I (z_g m r) 27 i j := id rfl
theorem zi_s_30 : z_is sc 30 = some 891 := id rfl
theorem zi_k_30 : z_ik 30 = some 891 := id rfl
theorem zi_v_30 {j : Nat} : z_iv sc m (30, r, i) j = z_I (z_g m r) 30 i j := id rfl
theorem zi_s_32 : z_is sc 32 = some 4 := id rfl
theorem zi_k_32 : z_ik 32 = some 4 := id rfl
theorem zi_v_32 {j : Nat} : z_iv sc m (32, r, i) j = z_I (z_g m r) 32 i j := id rfl
theorem zi_s_33 : z_is sc 33 = some 12 := id rfl
theorem zi_k_33 : z_ik 33 = some 12 := id rfl
theorem zi_v_33 {j : Nat} : z_iv sc m (33, r, i) j = z_I (z_g m r) 33 i j := id rfl
theorem zi_l_23 : z_lk 23 = some 88 := id rfl
theorem zi_l_25 : z_lk 25 = some 704 := id rfl
theorem zi_l_28 : z_lk 28 = some 176 := id rfl
theorem zi_l_31 : z_lk 31 = some 88 := id rfl
theorem zm_K_0 : z_mK 0 = 7 := id rfl
theorem zm_B_0 : z_mB 0 = 0 := id rfl
theorem zm_R_0 : z_mR 0 = 2 := id rfl
theorem zm_L_0 : z_mL 0 = 4 := id rfl
theorem zm_K_1 : z_mK 1 = 0 := id rfl
theorem zm_B_1 : z_mB 1 = 0 := id rfl
theorem zm_R_1 : z_mR 1 = 0 := id rfl
theorem zm_L_1 : z_mL 1 = 3 := id rfl
theorem zm_K_2 : z_mK 2 = 0 := id rfl
theorem zm_B_2 : z_mB 2 = 0 := id rfl
theorem zm_R_2 : z_mR 2 = 1 := id rfl
theorem zm_L_2 : z_mL 2 = 3 := id rfl
theorem zm_K_3 : z_mK 3 = 0 := id rfl
theorem zm_B_3 : z_mB 3 = 0 := id rfl
theorem zm_R_3 : z_mR 3 = 0 := id rfl
theorem zm_L_3 : z_mL 3 = 5 := id rfl
theorem zm_K_4 : z_mK 4 = 0 := id rfl
theorem zm_B_4 : z_mB 4 = 0 := id rfl
theorem zm_R_4 : z_mR 4 = 1 := id rfl
theorem zm_L_4 : z_mL 4 = 2 := id rfl
theorem zm_K_5 : z_mK 5 = 0 := id rfl
theorem zm_B_5 : z_mB 5 = 0 := id rfl
theorem zm_R_5 : z_mR 5 = 0 := id rfl
theorem zm_L_5 : z_mL 5 = 5 := id rfl
theorem zm_K_6 : z_mK 6 = 0 := id rfl
theorem zm_B_6 : z_mB 6 = 0 := id rfl
theorem zm_R_6 : z_mR 6 = 1 := id rfl
theorem zm_L_6 : z_mL 6 = 2 := id rfl
theorem zm_K_7 : z_mK 7 = 0 := id rfl
theorem zm_B_7 : z_mB 7 = 0 := id rfl
theorem zm_R_7 : z_mR 7 = 1 := id rfl
theorem zm_L_7 : z_mL 7 = 2 := id rfl
theorem zm_K_8 : z_mK 8 = 0 := id rfl
theorem zm_B_8 : z_mB 8 = 0 := id rfl
theorem zm_R_8 : z_mR 8 = 1 := id rfl
theorem zm_L_8 : z_mL 8 = 4 := id rfl
theorem zm_K_9 : z_mK 9 = 0 := id rfl
theorem zm_B_9 : z_mB 9 = 0 := id rfl
theorem zm_R_9 : z_mR 9 = 0 := id rfl
theorem zm_L_9 : z_mL 9 = 8 := id rfl
theorem zm_K_10 : z_mK 10 = 0 := id rfl
theorem zm_B_10 : z_mB 10 = 0 := id rfl
theorem zm_R_10 : z_mR 10 = 2 := id rfl
theorem zm_L_10 : z_mL 10 = 2 := id rfl
theorem zm_K_11 : z_mK 11 = 0 := id rfl
theorem zm_B_11 : z_mB 11 = 0 := id rfl
theorem zm_R_11 : z_mR 11 = 2 := id rfl
theorem zm_L_11 : z_mL 11 = 4 := id rfl
theorem zm_K_12 : z_mK 12 = 0 := id rfl
theorem zm_B_12 : z_mB 12 = 0 := id rfl
theorem zm_R_12 : z_mR 12 = 2 := id rfl
theorem zm_L_12 : z_mL 12 = 2 := id rfl
theorem zm_K_13 : z_mK 13 = 0 := id rfl
theorem zm_B_13 : z_mB 13 = 0 := id rfl
theorem zm_R_13 : z_mR 13 = 2 := id rfl
theorem zm_L_13 : z_mL 13 = 2 := id rfl
theorem zm_K_14 : z_mK 14 = 0 := id rfl
theorem zm_B_14 : z_mB 14 = 0 := id rfl
theorem zm_R_14 : z_mR 14 = 1 := id rfl
theorem zm_L_14 : z_mL 14 = 5 := id rfl
theorem zm_K_15 : z_mK 15 = 0 := id rfl
theorem zm_B_15 : z_mB 15 = 0 := id rfl
theorem zm_R_15 : z_mR 15 = 2 := id rfl
theorem zm_L_15 : z_mL 15 = 2 := id rfl
theorem zm_K_16 : z_mK 16 = 0 := id rfl
theorem zm_B_16 : z_mB 16 = 0 := id rfl
theorem zm_R_16 : z_mR 16 = 2 := id rfl
theorem zm_L_16 : z_mL 16 = 5 := id rfl
theorem zm_K_17 : z_mK 17 = 0 := id rfl
theorem zm_B_17 : z_mB 17 = 0 := id rfl
theorem zm_R_17 : z_mR 17 = 2 := id rfl
theorem zm_L_17 : z_mL 17 = 3 := id rfl
theorem zm_K_18 : z_mK 18 = 0 := id rfl
theorem zm_B_18 : z_mB 18 = 0 := id rfl
theorem zm_R_18 : z_mR 18 = 0 := id rfl
theorem zm_L_18 : z_mL 18 = 7 := id rfl
theorem zm_K_19 : z_mK 19 = 0 := id rfl
theorem zm_B_19 : z_mB 19 = 0 := id rfl
theorem zm_R_19 : z_mR 19 = 2 := id rfl
theorem zm_L_19 : z_mL 19 = 2 := id rfl
theorem zm_K_20 : z_mK 20 = 0 := id rfl
theorem zm_B_20 : z_mB 20 = 0 := id rfl
theorem zm_R_20 : z_mR 20 = 1 := id rfl
theorem zm_L_20 : z_mL 20 = 4 := id rfl
theorem zm_K_21 : z_mK 21 = 0 := id rfl
theorem zm_B_21 : z_mB 21 = 0 := id rfl
theorem zm_R_21 : z_mR 21 = 2 := id rfl
theorem zm_L_21 : z_mL 21 = 3 := id rfl
theorem zm_K_22 : z_mK 22 = 0 := id rfl
theorem zm_B_22 : z_mB 22 = 0 := id rfl
theorem zm_R_22 : z_mR 22 = 1 := id rfl
theorem zm_L_22 : z_mL 22 = 2 := id rfl
theorem zm_K_23 : z_mK 23 = 0 := id rfl
theorem zm_B_23 : z_mB 23 = 0 := id rfl
theorem zm_R_23 : z_mR 23 = 0 := id rfl
theorem zm_L_23 : z_mL 23 = 3 := id rfl
theorem zm_K_24 : z_mK 24 = 0 := id rfl
theorem zm_B_24 : z_mB 24 = 0 := id rfl
theorem zm_R_24 : z_mR 24 = 0 := id rfl
theorem zm_L_24 : z_mL 24 = 4 := id rfl
theorem zm_K_25 : z_mK 25 = 0 := id rfl
theorem zm_B_25 : z_mB 25 = 0 := id rfl
theorem zm_R_25 : z_mR 25 = 1 := id rfl
theorem zm_L_25 : z_mL 25 = 4 := id rfl
theorem zm_K_26 : z_mK 26 = 0 := id rfl
theorem zm_B_26 : z_mB 26 = 0 := id rfl
theorem zm_R_26 : z_mR 26 = 1 := id rfl
theorem zm_L_26 : z_mL 26 = 4 := id rfl
theorem zm_K_27 : z_mK 27 = 0 := id rfl
theorem zm_B_27 : z_mB 27 = 0 := id rfl
theorem zm_R_27 : z_mR 27 = 0 := id rfl
theorem zm_L_27 : z_mL 27 = 8 := id rfl
theorem zm_K_28 : z_mK 28 = 0 := id rfl
theorem zm_B_28 : z_mB 28 = 0 := id rfl
theorem zm_R_28 : z_mR 28 = 1 := id rfl
theorem zm_L_28 : z_mL 28 = 5 := id rfl
theorem zm_K_29 : z_mK 29 = 0 := id rfl
theorem zm_B_29 : z_mB 29 = 0 := id rfl
theorem zm_R_29 : z_mR 29 = 2 := id rfl
theorem zm_L_29 : z_mL 29 = 4 := id rfl
theorem zm_K_30 : z_mK 30 = 0 := id rfl
theorem zm_B_30 : z_mB 30 = 0 := id rfl
theorem zm_R_30 : z_mR 30 = 1 := id rfl
theorem zm_L_30 : z_mL 30 = 10 := id rfl
theorem zm_K_31 : z_mK 31 = 0 := id rfl
theorem zm_B_31 : z_mB 31 = 0 := id rfl
theorem zm_R_31 : z_mR 31 = 1 := id rfl
theorem zm_L_31 : z_mL 31 = 4 := id rfl
theorem zm_K_32 : z_mK 32 = 0 := id rfl
theorem zm_B_32 : z_mB 32 = 0 := id rfl
theorem zm_R_32 : z_mR 32 = 1 := id rfl
theorem zm_L_32 : z_mL 32 = 7 := id rfl
theorem zm_K_33 : z_mK 33 = 0 := id rfl
theorem zm_B_33 : z_mB 33 = 0 := id rfl
theorem zm_R_33 : z_mR 33 = 0 := id rfl
theorem zm_L_33 : z_mL 33 = 9 := id rfl
theorem zm_K_34 : z_mK 34 = 0 := id rfl
theorem zm_B_34 : z_mB 34 = 0 := id rfl
theorem zm_R_34 : z_mR 34 = 0 := id rfl
theorem zm_L_34 : z_mL 34 = 7 := id rfl
theorem zm_K_35 : z_mK 35 = 0 := id rfl
theorem zm_B_35 : z_mB 35 = 0 := id rfl
theorem zm_R_35 : z_mR 35 = 2 := id rfl
theorem zm_L_35 : z_mL 35 = 2 := id rfl
theorem zm_K_36 : z_mK 36 = 0 := id rfl
theorem zm_B_36 : z_mB 36 = 0 := id rfl
theorem zm_R_36 : z_mR 36 = 2 := id rfl
theorem zm_L_36 : z_mL 36 = 4 := id rfl
theorem zm_K_37 : z_mK 37 = 0 := id rfl
theorem zm_B_37 : z_mB 37 = 0 := id rfl
theorem zm_R_37 : z_mR 37 = 1 := id rfl
theorem zm_L_37 : z_mL 37 = 4 := id rfl
theorem zm_K_38 : z_mK 38 = 0 := id rfl
theorem zm_B_38 : z_mB 38 = 0 := id rfl
theorem zm_R_38 : z_mR 38 = 1 := id rfl
theorem zm_L_38 : z_mL 38 = 4 := id rfl
theorem zm_K_39 : z_mK 39 = 0 := id rfl
theorem zm_B_39 : z_mB 39 = 0 := id rfl
theorem zm_R_39 : z_mR 39 = 1 := id rfl
theorem zm_L_39 : z_mL 39 = 2 := id rfl
theorem zm_K_40 : z_mK 40 = 0 := id rfl
theorem zm_B_40 : z_mB 40 = 0 := id rfl
theorem zm_R_40 : z_mR 40 = 1 := id rfl
theorem zm_L_40 : z_mL 40 = 2 := id rfl
theorem zm_K_41 : z_mK 41 = 0 := id rfl
theorem zm_B_41 : z_mB 41 = 0 := id rfl
theorem zm_R_41 : z_mR 41 = 2 := id rfl
theorem zm_L_41 : z_mL 41 = 2 := id rfl
theorem zm_K_42 : z_mK 42 = 0 := id rfl
theorem zm_B_42 : z_mB 42 = 0 := id rfl
theorem zm_R_42 : z_mR 42 = 1 := id rfl
theorem zm_L_42 : z_mL 42 = 3 := id rfl
theorem zm_K_43 : z_mK 43 = 0 := id rfl
theorem zm_B_43 : z_mB 43 = 0 := id rfl
theorem zm_R_43 : z_mR 43 = 1 := id rfl
theorem zm_L_43 : z_mL 43 = 3 := id rfl
theorem zm_K_44 : z_mK 44 = 0 := id rfl
theorem zm_B_44 : z_mB 44 = 0 := id rfl
theorem zm_R_44 : z_mR 44 = 1 := id rfl
theorem zm_L_44 : z_mL 44 = 4 := id rfl
theorem zm_K_45 : z_mK 45 = 1 := id rfl
theorem zm_B_45 : z_mB 45 = 0 := id rfl
theorem zm_R_45 : z_mR 45 = 0 := id rfl
theorem zm_L_45 : z_mL 45 = 2 := id rfl
theorem zm_K_46 : z_mK 46 = 1 := id rfl
theorem zm_B_46 : z_mB 46 = 0 := id rfl
theorem zm_R_46 : z_mR 46 = 0 := id rfl
theorem zm_L_46 : z_mL 46 = 2 := id rfl
theorem zm_K_47 : z_mK 47 = 1 := id rfl
theorem zm_B_47 : z_mB 47 = 0 := id rfl
theorem zm_R_47 : z_mR 47 = 1 := id rfl
theorem zm_L_47 : z_mL 47 = 1 := id rfl
theorem zm_K_48 : z_mK 48 = 1 := id rfl
theorem zm_B_48 : z_mB 48 = 0 := id rfl
theorem zm_R_48 : z_mR 48 = 0 := id rfl
theorem zm_L_48 : z_mL 48 = 2 := id rfl
theorem zm_K_49 : z_mK 49 = 2 := id rfl
theorem zm_B_49 : z_mB 49 = 0 := id rfl
theorem zm_R_49 : z_mR 49 = 0 := id rfl
theorem zm_L_49 : z_mL 49 = 2 := id rfl
theorem zm_K_50 : z_mK 50 = 2 := id rfl
theorem zm_B_50 : z_mB 50 = 0 := id rfl
theorem zm_R_50 : z_mR 50 = 1 := id rfl
theorem zm_L_50 : z_mL 50 = 5 := id rfl
theorem zm_K_51 : z_mK 51 = 2 := id rfl
theorem zm_B_51 : z_mB 51 = 0 := id rfl
theorem zm_R_51 : z_mR 51 = 0 := id rfl
theorem zm_L_51 : z_mL 51 = 4 := id rfl
theorem zm_K_52 : z_mK 52 = 2 := id rfl
theorem zm_B_52 : z_mB 52 = 0 := id rfl
theorem zm_R_52 : z_mR 52 = 0 := id rfl
theorem zm_L_52 : z_mL 52 = 3 := id rfl
theorem zm_K_53 : z_mK 53 = 2 := id rfl
theorem zm_B_53 : z_mB 53 = 0 := id rfl
theorem zm_R_53 : z_mR 53 = 2 := id rfl
theorem zm_L_53 : z_mL 53 = 3 := id rfl
theorem zm_K_54 : z_mK 54 = 2 := id rfl
theorem zm_B_54 : z_mB 54 = 0 := id rfl
theorem zm_R_54 : z_mR 54 = 1 := id rfl
theorem zm_L_54 : z_mL 54 = 4 := id rfl
theorem zm_K_55 : z_mK 55 = 2 := id rfl
theorem zm_B_55 : z_mB 55 = 0 := id rfl
theorem zm_R_55 : z_mR 55 = 1 := id rfl
theorem zm_L_55 : z_mL 55 = 3 := id rfl
theorem zm_K_56 : z_mK 56 = 2 := id rfl
theorem zm_B_56 : z_mB 56 = 0 := id rfl
theorem zm_R_56 : z_mR 56 = 1 := id rfl
theorem zm_L_56 : z_mL 56 = 8 := id rfl
theorem zm_K_57 : z_mK 57 = 2 := id rfl
theorem zm_B_57 : z_mB 57 = 0 := id rfl
theorem zm_R_57 : z_mR 57 = 1 := id rfl
theorem zm_L_57 : z_mL 57 = 8 := id rfl
theorem zm_K_58 : z_mK 58 = 3 := id rfl
theorem zm_B_58 : z_mB 58 = 0 := id rfl
theorem zm_R_58 : z_mR 58 = 0 := id rfl
theorem zm_L_58 : z_mL 58 = 2 := id rfl
theorem zm_K_59 : z_mK 59 = 3 := id rfl
theorem zm_B_59 : z_mB 59 = 0 := id rfl
theorem zm_R_59 : z_mR 59 = 1 := id rfl
theorem zm_L_59 : z_mL 59 = 1 := id rfl
theorem zm_K_60 : z_mK 60 = 3 := id rfl
theorem zm_B_60 : z_mB 60 = 0 := id rfl
theorem zm_R_60 : z_mR 60 = 1 := id rfl
theorem zm_L_60 : z_mL 60 = 1 := id rfl
theorem zm_K_61 : z_mK 61 = 3 := id rfl
theorem zm_B_61 : z_mB 61 = 0 := id rfl
theorem zm_R_61 : z_mR 61 = 1 := id rfl
theorem zm_L_61 : z_mL 61 = 3 := id rfl
theorem zm_K_62 : z_mK 62 = 3 := id rfl
theorem zm_B_62 : z_mB 62 = 0 := id rfl
theorem zm_R_62 : z_mR 62 = 0 := id rfl
theorem zm_L_62 : z_mL 62 = 6 := id rfl
theorem zm_K_63 : z_mK 63 = 3 := id rfl
theorem zm_B_63 : z_mB 63 = 0 := id rfl
theorem zm_R_63 : z_mR 63 = 2 := id rfl
theorem zm_L_63 : z_mL 63 = 2 := id rfl
theorem zm_K_64 : z_mK 64 = 4 := id rfl
theorem zm_B_64 : z_mB 64 = 0 := id rfl
theorem zm_R_64 : z_mR 64 = 0 := id rfl
theorem zm_L_64 : z_mL 64 = 2 := id rfl
theorem zm_K_65 : z_mK 65 = 4 := id rfl
theorem zm_B_65 : z_mB 65 = 0 := id rfl
theorem zm_R_65 : z_mR 65 = 0 := id rfl
theorem zm_L_65 : z_mL 65 = 5 := id rfl
theorem zm_K_66 : z_mK 66 = 4 := id rfl
theorem zm_B_66 : z_mB 66 = 0 := id rfl
theorem zm_R_66 : z_mR 66 = 0 := id rfl
theorem zm_L_66 : z_mL 66 = 6 := id rfl
theorem zm_K_67 : z_mK 67 = 4 := id rfl
theorem zm_B_67 : z_mB 67 = 0 := id rfl
theorem zm_R_67 : z_mR 67 = 1 := id rfl
theorem zm_L_67 : z_mL 67 = 3 := id rfl
theorem zm_K_68 : z_mK 68 = 4 := id rfl
theorem zm_B_68 : z_mB 68 = 0 := id rfl
theorem zm_R_68 : z_mR 68 = 2 := id rfl
theorem zm_L_68 : z_mL 68 = 3 := id rfl
theorem zm_K_69 : z_mK 69 = 4 := id rfl
theorem zm_B_69 : z_mB 69 = 0 := id rfl
theorem zm_R_69 : z_mR 69 = 2 := id rfl
theorem zm_L_69 : z_mL 69 = 3 := id rfl
theorem zm_K_70 : z_mK 70 = 5 := id rfl
theorem zm_B_70 : z_mB 70 = 1 := id rfl
theorem zm_R_70 : z_mR 70 = 1 := id rfl
theorem zm_L_70 : z_mL 70 = 2 := id rfl
theorem zm_K_71 : z_mK 71 = 5 := id rfl
theorem zm_B_71 : z_mB 71 = 0 := id rfl
theorem zm_R_71 : z_mR 71 = 2 := id rfl
theorem zm_L_71 : z_mL 71 = 3 := id rfl
theorem zm_K_72 : z_mK 72 = 5 := id rfl
theorem zm_B_72 : z_mB 72 = 0 := id rfl
theorem zm_R_72 : z_mR 72 = 1 := id rfl
theorem zm_L_72 : z_mL 72 = 2 := id rfl
theorem zm_K_73 : z_mK 73 = 5 := id rfl
theorem zm_B_73 : z_mB 73 = 1 := id rfl
theorem zm_R_73 : z_mR 73 = 0 := id rfl
theorem zm_L_73 : z_mL 73 = 3 := id rfl
theorem zm_K_74 : z_mK 74 = 5 := id rfl
theorem zm_B_74 : z_mB 74 = 1 := id rfl
theorem zm_R_74 : z_mR 74 = 4 := id rfl
theorem zm_L_74 : z_mL 74 = 3 := id rfl
theorem zm_K_75 : z_mK 75 = 5 := id rfl
theorem zm_B_75 : z_mB 75 = 0 := id rfl
theorem zm_R_75 : z_mR 75 = 1 := id rfl
theorem zm_L_75 : z_mL 75 = 2 := id rfl
theorem zm_K_76 : z_mK 76 = 5 := id rfl
theorem zm_B_76 : z_mB 76 = 1 := id rfl
theorem zm_R_76 : z_mR 76 = 1 := id rfl
theorem zm_L_76 : z_mL 76 = 5 := id rfl
theorem zm_K_77 : z_mK 77 = 5 := id rfl
theorem zm_B_77 : z_mB 77 = 1 := id rfl
theorem zm_R_77 : z_mR 77 = 1 := id rfl
theorem zm_L_77 : z_mL 77 = 4 := id rfl
theorem zm_K_78 : z_mK 78 = 5 := id rfl
theorem zm_B_78 : z_mB 78 = 1 := id rfl
theorem zm_R_78 : z_mR 78 = 1 := id rfl
theorem zm_L_78 : z_mL 78 = 4 := id rfl
theorem zm_K_79 : z_mK 79 = 5 := id rfl
theorem zm_B_79 : z_mB 79 = 1 := id rfl
theorem zm_R_79 : z_mR 79 = 1 := id rfl
theorem zm_L_79 : z_mL 79 = 5 := id rfl
theorem zm_K_80 : z_mK 80 = 5 := id rfl
theorem zm_B_80 : z_mB 80 = 1 := id rfl
theorem zm_R_80 : z_mR 80 = 1 := id rfl
theorem zm_L_80 : z_mL 80 = 5 := id rfl
theorem zm_K_81 : z_mK 81 = 5 := id rfl
theorem zm_B_81 : z_mB 81 = 0 := id rfl
theorem zm_R_81 : z_mR 81 = 2 := id rfl
theorem zm_L_81 : z_mL 81 = 1 := id rfl
theorem zm_K_82 : z_mK 82 = 5 := id rfl
theorem zm_B_82 : z_mB 82 = 1 := id rfl
theorem zm_R_82 : z_mR 82 = 1 := id rfl
theorem zm_L_82 : z_mL 82 = 6 := id rfl
theorem zm_K_83 : z_mK 83 = 5 := id rfl
theorem zm_B_83 : z_mB 83 = 2 := id rfl
theorem zm_R_83 : z_mR 83 = 1 := id rfl
theorem zm_L_83 : z_mL 83 = 7 := id rfl
theorem zm_K_84 : z_mK 84 = 5 := id rfl
theorem zm_B_84 : z_mB 84 = 1 := id rfl
theorem zm_R_84 : z_mR 84 = 4 := id rfl
theorem zm_L_84 : z_mL 84 = 1 := id rfl
theorem zm_K_85 : z_mK 85 = 5 := id rfl
theorem zm_B_85 : z_mB 85 = 1 := id rfl
theorem zm_R_85 : z_mR 85 = 1 := id rfl
theorem zm_L_85 : z_mL 85 = 4 := id rfl
theorem zm_K_86 : z_mK 86 = 5 := id rfl
theorem zm_B_86 : z_mB 86 = 1 := id rfl
theorem zm_R_86 : z_mR 86 = 1 := id rfl
theorem zm_L_86 : z_mL 86 = 10 := id rfl
theorem zm_K_87 : z_mK 87 = 5 := id rfl
theorem zm_B_87 : z_mB 87 = 1 := id rfl
theorem zm_R_87 : z_mR 87 = 1 := id rfl
theorem zm_L_87 : z_mL 87 = 4 := id rfl
theorem zm_K_88 : z_mK 88 = 5 := id rfl
theorem zm_B_88 : z_mB 88 = 1 := id rfl
theorem zm_R_88 : z_mR 88 = 1 := id rfl
theorem zm_L_88 : z_mL 88 = 6 := id rfl
theorem zm_K_89 : z_mK 89 = 5 := id rfl
theorem zm_B_89 : z_mB 89 = 0 := id rfl
theorem zm_R_89 : z_mR 89 = 2 := id rfl
theorem zm_L_89 : z_mL 89 = 4 := id rfl
theorem zm_K_90 : z_mK 90 = 5 := id rfl
theorem zm_B_90 : z_mB 90 = 1 := id rfl
theorem zm_R_90 : z_mR 90 = 1 := id rfl
theorem zm_L_90 : z_mL 90 = 4 := id rfl
theorem zm_K_91 : z_mK 91 = 5 := id rfl
theorem zm_B_91 : z_mB 91 = 1 := id rfl
theorem zm_R_91 : z_mR 91 = 1 := id rfl
theorem zm_L_91 : z_mL 91 = 5 := id rfl
theorem zm_K_92 : z_mK 92 = 5 := id rfl
theorem zm_B_92 : z_mB 92 = 1 := id rfl
theorem zm_R_92 : z_mR 92 = 1 := id rfl
theorem zm_L_92 : z_mL 92 = 6 := id rfl
theorem zm_K_93 : z_mK 93 = 5 := id rfl
theorem zm_B_93 : z_mB 93 = 1 := id rfl
theorem zm_R_93 : z_mR 93 = 1 := id rfl
theorem zm_L_93 : z_mL 93 = 6 := id rfl
theorem zm_K_94 : z_mK 94 = 5 := id rfl
theorem zm_B_94 : z_mB 94 = 1 := id rfl
theorem zm_R_94 : z_mR 94 = 1 := id rfl
theorem zm_L_94 : z_mL 94 = 4 := id rfl
theorem zm_K_95 : z_mK 95 = 5 := id rfl
theorem zm_B_95 : z_mB 95 = 1 := id rfl
theorem zm_R_95 : z_mR 95 = 1 := id rfl
theorem zm_L_95 : z_mL 95 = 5 := id rfl
theorem zm_K_96 : z_mK 96 = 5 := id rfl
theorem zm_B_96 : z_mB 96 = 1 := id rfl
theorem zm_R_96 : z_mR 96 = 1 := id rfl
theorem zm_L_96 : z_mL 96 = 2 := id rfl
theorem zm_K_97 : z_mK 97 = 5 := id rfl
theorem zm_B_97 : z_mB 97 = 0 := id rfl
theorem zm_R_97 : z_mR 97 = 1 := id rfl
theorem zm_L_97 : z_mL 97 = 3 := id rfl
theorem zm_K_98 : z_mK 98 = 5 := id rfl
theorem zm_B_98 : z_mB 98 = 1 := id rfl
theorem zm_R_98 : z_mR 98 = 1 := id rfl
theorem zm_L_98 : z_mL 98 = 2 := id rfl
theorem zm_K_99 : z_mK 99 = 5 := id rfl
theorem zm_B_99 : z_mB 99 = 0 := id rfl
theorem zm_R_99 : z_mR 99 = 1 := id rfl
theorem zm_L_99 : z_mL 99 = 3 := id rfl
theorem zm_K_100 : z_mK 100 = 5 := id rfl
theorem zm_B_100 : z_mB 100 = 0 := id rfl
theorem zm_R_100 : z_mR 100 = 1 := id rfl
theorem zm_L_100 : z_mL 100 = 4 := id rfl
theorem zm_K_101 : z_mK 101 = 5 := id rfl
theorem zm_B_101 : z_mB 101 = 0 := id rfl
theorem zm_R_101 : z_mR 101 = 3 := id rfl
theorem zm_L_101 : z_mL 101 = 8 := id rfl
theorem zm_K_102 : z_mK 102 = 5 := id rfl
theorem zm_B_102 : z_mB 102 = 0 := id rfl
theorem zm_R_102 : z_mR 102 = 1 := id rfl
theorem zm_L_102 : z_mL 102 = 4 := id rfl
theorem zm_K_103 : z_mK 103 = 5 := id rfl
theorem zm_B_103 : z_mB 103 = 0 := id rfl
theorem zm_R_103 : z_mR 103 = 1 := id rfl
theorem zm_L_103 : z_mL 103 = 4 := id rfl
theorem zm_K_104 : z_mK 104 = 5 := id rfl
theorem zm_B_104 : z_mB 104 = 0 := id rfl
theorem zm_R_104 : z_mR 104 = 3 := id rfl
theorem zm_L_104 : z_mL 104 = 4 := id rfl
theorem zm_K_105 : z_mK 105 = 5 := id rfl
theorem zm_B_105 : z_mB 105 = 0 := id rfl
theorem zm_R_105 : z_mR 105 = 1 := id rfl
theorem zm_L_105 : z_mL 105 = 3 := id rfl
theorem zm_K_106 : z_mK 106 = 5 := id rfl
theorem zm_B_106 : z_mB 106 = 0 := id rfl
theorem zm_R_106 : z_mR 106 = 1 := id rfl
theorem zm_L_106 : z_mL 106 = 3 := id rfl
theorem zm_K_107 : z_mK 107 = 5 := id rfl
theorem zm_B_107 : z_mB 107 = 0 := id rfl
theorem zm_R_107 : z_mR 107 = 1 := id rfl
theorem zm_L_107 : z_mL 107 = 4 := id rfl
theorem zm_K_108 : z_mK 108 = 5 := id rfl
theorem zm_B_108 : z_mB 108 = 0 := id rfl
theorem zm_R_108 : z_mR 108 = 1 := id rfl
theorem zm_L_108 : z_mL 108 = 4 := id rfl
theorem zm_K_109 : z_mK 109 = 5 := id rfl
theorem zm_B_109 : z_mB 109 = 0 := id rfl
theorem zm_R_109 : z_mR 109 = 1 := id rfl
theorem zm_L_109 : z_mL 109 = 5 := id rfl
theorem zm_K_110 : z_mK 110 = 5 := id rfl
theorem zm_B_110 : z_mB 110 = 0 := id rfl
theorem zm_R_110 : z_mR 110 = 1 := id rfl
theorem zm_L_110 : z_mL 110 = 6 := id rfl
theorem zm_K_111 : z_mK 111 = 5 := id rfl
theorem zm_B_111 : z_mB 111 = 0 := id rfl
theorem zm_R_111 : z_mR 111 = 1 := id rfl
theorem zm_L_111 : z_mL 111 = 10 := id rfl
theorem zm_K_112 : z_mK 112 = 5 := id rfl
theorem zm_B_112 : z_mB 112 = 1 := id rfl
theorem zm_R_112 : z_mR 112 = 1 := id rfl
theorem zm_L_112 : z_mL 112 = 4 := id rfl
theorem zm_K_113 : z_mK 113 = 5 := id rfl
theorem zm_B_113 : z_mB 113 = 0 := id rfl
theorem zm_R_113 : z_mR 113 = 1 := id rfl
theorem zm_L_113 : z_mL 113 = 5 := id rfl
theorem zm_K_114 : z_mK 114 = 5 := id rfl
theorem zm_B_114 : z_mB 114 = 0 := id rfl
theorem zm_R_114 : z_mR 114 = 1 := id rfl
theorem zm_L_114 : z_mL 114 = 8 := id rfl
theorem zm_K_115 : z_mK 115 = 5 := id rfl
theorem zm_B_115 : z_mB 115 = 0 := id rfl
theorem zm_R_115 : z_mR 115 = 1 := id rfl
theorem zm_L_115 : z_mL 115 = 7 := id rfl
theorem zm_K_116 : z_mK 116 = 5 := id rfl
theorem zm_B_116 : z_mB 116 = 0 := id rfl
theorem zm_R_116 : z_mR 116 = 1 := id rfl
theorem zm_L_116 : z_mL 116 = 5 := id rfl
theorem zm_K_117 : z_mK 117 = 5 := id rfl
theorem zm_B_117 : z_mB 117 = 0 := id rfl
theorem zm_R_117 : z_mR 117 = 1 := id rfl
theorem zm_L_117 : z_mL 117 = 5 := id rfl
theorem zm_K_118 : z_mK 118 = 5 := id rfl
theorem zm_B_118 : z_mB 118 = 0 := id rfl
theorem zm_R_118 : z_mR 118 = 1 := id rfl
theorem zm_L_118 : z_mL 118 = 7 := id rfl
theorem zm_K_119 : z_mK 119 = 5 := id rfl
theorem zm_B_119 : z_mB 119 = 0 := id rfl
theorem zm_R_119 : z_mR 119 = 1 := id rfl
theorem zm_L_119 : z_mL 119 = 6 := id rfl
theorem zm_K_120 : z_mK 120 = 5 := id rfl
theorem zm_B_120 : z_mB 120 = 1 := id rfl
theorem zm_R_120 : z_mR 120 = 1 := id rfl
theorem zm_L_120 : z_mL 120 = 5 := id rfl
theorem zm_K_121 : z_mK 121 = 5 := id rfl
theorem zm_B_121 : z_mB 121 = 0 := id rfl
theorem zm_R_121 : z_mR 121 = 1 := id rfl
theorem zm_L_121 : z_mL 121 = 6 := id rfl
theorem zm_K_122 : z_mK 122 = 5 := id rfl
theorem zm_B_122 : z_mB 122 = 0 := id rfl
theorem zm_R_122 : z_mR 122 = 1 := id rfl
theorem zm_L_122 : z_mL 122 = 4 := id rfl
theorem zm_K_123 : z_mK 123 = 5 := id rfl
theorem zm_B_123 : z_mB 123 = 0 := id rfl
theorem zm_R_123 : z_mR 123 = 1 := id rfl
theorem zm_L_123 : z_mL 123 = 2 := id rfl
theorem zm_K_124 : z_mK 124 = 5 := id rfl
theorem zm_B_124 : z_mB 124 = 0 := id rfl
theorem zm_R_124 : z_mR 124 = 1 := id rfl
theorem zm_L_124 : z_mL 124 = 1 := id rfl
theorem zm_K_125 : z_mK 125 = 6 := id rfl
theorem zm_B_125 : z_mB 125 = 0 := id rfl
theorem zm_R_125 : z_mR 125 = 1 := id rfl
theorem zm_L_125 : z_mL 125 = 1 := id rfl
theorem zm_K_126 : z_mK 126 = 6 := id rfl
theorem zm_B_126 : z_mB 126 = 0 := id rfl
theorem zm_R_126 : z_mR 126 = 1 := id rfl
theorem zm_L_126 : z_mL 126 = 2 := id rfl
theorem zm_K_127 : z_mK 127 = 6 := id rfl
theorem zm_B_127 : z_mB 127 = 0 := id rfl
theorem zm_R_127 : z_mR 127 = 0 := id rfl
theorem zm_L_127 : z_mL 127 = 5 := id rfl
theorem zm_K_128 : z_mK 128 = 6 := id rfl
theorem zm_B_128 : z_mB 128 = 0 := id rfl
theorem zm_R_128 : z_mR 128 = 1 := id rfl
theorem zm_L_128 : z_mL 128 = 2 := id rfl
theorem zm_K_129 : z_mK 129 = 6 := id rfl
theorem zm_B_129 : z_mB 129 = 0 := id rfl
theorem zm_R_129 : z_mR 129 = 1 := id rfl
theorem zm_L_129 : z_mL 129 = 2 := id rfl
theorem zm_K_130 : z_mK 130 = 6 := id rfl
theorem zm_B_130 : z_mB 130 = 0 := id rfl
theorem zm_R_130 : z_mR 130 = 2 := id rfl
theorem zm_L_130 : z_mL 130 = 6 := id rfl
theorem zm_K_131 : z_mK 131 = 6 := id rfl
theorem zm_B_131 : z_mB 131 = 0 := id rfl
theorem zm_R_131 : z_mR 131 = 0 := id rfl
theorem zm_L_131 : z_mL 131 = 5 := id rfl
theorem zm_K_132 : z_mK 132 = 6 := id rfl
theorem zm_B_132 : z_mB 132 = 0 := id rfl
theorem zm_R_132 : z_mR 132 = 1 := id rfl
theorem zm_L_132 : z_mL 132 = 2 := id rfl
theorem zm_K_133 : z_mK 133 = 6 := id rfl
theorem zm_B_133 : z_mB 133 = 0 := id rfl
theorem zm_R_133 : z_mR 133 = 1 := id rfl
theorem zm_L_133 : z_mL 133 = 3 := id rfl
theorem zm_K_134 : z_mK 134 = 6 := id rfl
theorem zm_B_134 : z_mB 134 = 0 := id rfl
theorem zm_R_134 : z_mR 134 = 0 := id rfl
theorem zm_L_134 : z_mL 134 = 3 := id rfl
theorem zm_K_135 : z_mK 135 = 6 := id rfl
theorem zm_B_135 : z_mB 135 = 0 := id rfl
theorem zm_R_135 : z_mR 135 = 1 := id rfl
theorem zm_L_135 : z_mL 135 = 1 := id rfl
theorem zm_K_136 : z_mK 136 = 6 := id rfl
theorem zm_B_136 : z_mB 136 = 0 := id rfl
theorem zm_R_136 : z_mR 136 = 1 := id rfl
theorem zm_L_136 : z_mL 136 = 2 := id rfl
theorem zm_K_137 : z_mK 137 = 6 := id rfl
theorem zm_B_137 : z_mB 137 = 0 := id rfl
theorem zm_R_137 : z_mR 137 = 0 := id rfl
theorem zm_L_137 : z_mL 137 = 5 := id rfl
theorem zm_K_138 : z_mK 138 = 6 := id rfl
theorem zm_B_138 : z_mB 138 = 0 := id rfl
theorem zm_R_138 : z_mR 138 = 1 := id rfl
theorem zm_L_138 : z_mL 138 = 1 := id rfl
theorem zm_K_139 : z_mK 139 = 6 := id rfl
theorem zm_B_139 : z_mB 139 = 0 := id rfl
theorem zm_R_139 : z_mR 139 = 1 := id rfl
theorem zm_L_139 : z_mL 139 = 4 := id rfl
theorem zm_K_140 : z_mK 140 = 6 := id rfl
theorem zm_B_140 : z_mB 140 = 0 := id rfl
theorem zm_R_140 : z_mR 140 = 1 := id rfl
theorem zm_L_140 : z_mL 140 = 2 := id rfl
theorem zm_K_141 : z_mK 141 = 6 := id rfl
theorem zm_B_141 : z_mB 141 = 0 := id rfl
theorem zm_R_141 : z_mR 141 = 1 := id rfl
theorem zm_L_141 : z_mL 141 = 7 := id rfl
theorem zm_K_142 : z_mK 142 = 6 := id rfl
theorem zm_B_142 : z_mB 142 = 0 := id rfl
theorem zm_R_142 : z_mR 142 = 1 := id rfl
theorem zm_L_142 : z_mL 142 = 1 := id rfl
theorem zm_K_143 : z_mK 143 = 6 := id rfl
theorem zm_B_143 : z_mB 143 = 0 := id rfl
theorem zm_R_143 : z_mR 143 = 1 := id rfl
theorem zm_L_143 : z_mL 143 = 8 := id rfl
theorem zm_K_144 : z_mK 144 = 6 := id rfl
theorem zm_B_144 : z_mB 144 = 0 := id rfl
theorem zm_R_144 : z_mR 144 = 1 := id rfl
theorem zm_L_144 : z_mL 144 = 2 := id rfl
theorem zm_K_145 : z_mK 145 = 6 := id rfl
theorem zm_B_145 : z_mB 145 = 0 := id rfl
theorem zm_R_145 : z_mR 145 = 2 := id rfl
theorem zm_L_145 : z_mL 145 = 8 := id rfl
theorem zm_K_146 : z_mK 146 = 6 := id rfl
theorem zm_B_146 : z_mB 146 = 0 := id rfl
theorem zm_R_146 : z_mR 146 = 1 := id rfl
theorem zm_L_146 : z_mL 146 = 5 := id rfl
theorem zm_K_147 : z_mK 147 = 6 := id rfl
theorem zm_B_147 : z_mB 147 = 0 := id rfl
theorem zm_R_147 : z_mR 147 = 1 := id rfl
theorem zm_L_147 : z_mL 147 = 1 := id rfl
theorem zm_K_148 : z_mK 148 = 6 := id rfl
theorem zm_B_148 : z_mB 148 = 0 := id rfl
theorem zm_R_148 : z_mR 148 = 1 := id rfl
theorem zm_L_148 : z_mL 148 = 3 := id rfl
theorem zm_K_149 : z_mK 149 = 6 := id rfl
theorem zm_B_149 : z_mB 149 = 0 := id rfl
theorem zm_R_149 : z_mR 149 = 1 := id rfl
theorem zm_L_149 : z_mL 149 = 2 := id rfl
theorem zm_K_150 : z_mK 150 = 6 := id rfl
theorem zm_B_150 : z_mB 150 = 0 := id rfl
theorem zm_R_150 : z_mR 150 = 1 := id rfl
theorem zm_L_150 : z_mL 150 = 4 := id rfl
theorem zm_K_151 : z_mK 151 = 6 := id rfl
theorem zm_B_151 : z_mB 151 = 0 := id rfl
theorem zm_R_151 : z_mR 151 = 2 := id rfl
theorem zm_L_151 : z_mL 151 = 2 := id rfl
theorem zm_K_152 : z_mK 152 = 6 := id rfl
theorem zm_B_152 : z_mB 152 = 0 := id rfl
theorem zm_R_152 : z_mR 152 = 1 := id rfl
theorem zm_L_152 : z_mL 152 = 5 := id rfl
theorem zm_K_153 : z_mK 153 = 6 := id rfl
theorem zm_B_153 : z_mB 153 = 0 := id rfl
theorem zm_R_153 : z_mR 153 = 1 := id rfl
theorem zm_L_153 : z_mL 153 = 5 := id rfl
theorem zm_K_154 : z_mK 154 = 6 := id rfl
theorem zm_B_154 : z_mB 154 = 0 := id rfl
theorem zm_R_154 : z_mR 154 = 1 := id rfl
theorem zm_L_154 : z_mL 154 = 5 := id rfl
theorem zm_K_155 : z_mK 155 = 6 := id rfl
theorem zm_B_155 : z_mB 155 = 0 := id rfl
theorem zm_R_155 : z_mR 155 = 2 := id rfl
theorem zm_L_155 : z_mL 155 = 5 := id rfl
theorem zm_K_156 : z_mK 156 = 6 := id rfl
theorem zm_B_156 : z_mB 156 = 0 := id rfl
theorem zm_R_156 : z_mR 156 = 0 := id rfl
theorem zm_L_156 : z_mL 156 = 9 := id rfl
theorem zm_K_157 : z_mK 157 = 6 := id rfl
theorem zm_B_157 : z_mB 157 = 0 := id rfl
theorem zm_R_157 : z_mR 157 = 1 := id rfl
theorem zm_L_157 : z_mL 157 = 5 := id rfl
theorem zm_K_158 : z_mK 158 = 6 := id rfl
theorem zm_B_158 : z_mB 158 = 0 := id rfl
theorem zm_R_158 : z_mR 158 = 2 := id rfl
theorem zm_L_158 : z_mL 158 = 2 := id rfl
theorem zm_K_159 : z_mK 159 = 6 := id rfl
theorem zm_B_159 : z_mB 159 = 0 := id rfl
theorem zm_R_159 : z_mR 159 = 1 := id rfl
theorem zm_L_159 : z_mL 159 = 6 := id rfl
theorem zm_K_160 : z_mK 160 = 6 := id rfl
theorem zm_B_160 : z_mB 160 = 0 := id rfl
theorem zm_R_160 : z_mR 160 = 2 := id rfl
theorem zm_L_160 : z_mL 160 = 1 := id rfl
theorem zm_K_161 : z_mK 161 = 6 := id rfl
theorem zm_B_161 : z_mB 161 = 0 := id rfl
theorem zm_R_161 : z_mR 161 = 1 := id rfl
theorem zm_L_161 : z_mL 161 = 4 := id rfl
theorem zm_K_162 : z_mK 162 = 6 := id rfl
theorem zm_B_162 : z_mB 162 = 0 := id rfl
theorem zm_R_162 : z_mR 162 = 1 := id rfl
theorem zm_L_162 : z_mL 162 = 8 := id rfl
theorem zm_K_163 : z_mK 163 = 6 := id rfl
theorem zm_B_163 : z_mB 163 = 0 := id rfl
theorem zm_R_163 : z_mR 163 = 2 := id rfl
theorem zm_L_163 : z_mL 163 = 4 := id rfl
theorem zm_K_164 : z_mK 164 = 6 := id rfl
theorem zm_B_164 : z_mB 164 = 0 := id rfl
theorem zm_R_164 : z_mR 164 = 1 := id rfl
theorem zm_L_164 : z_mL 164 = 2 := id rfl
theorem zm_K_165 : z_mK 165 = 6 := id rfl
theorem zm_B_165 : z_mB 165 = 0 := id rfl
theorem zm_R_165 : z_mR 165 = 2 := id rfl
theorem zm_L_165 : z_mL 165 = 3 := id rfl
theorem zm_K_166 : z_mK 166 = 6 := id rfl
theorem zm_B_166 : z_mB 166 = 0 := id rfl
theorem zm_R_166 : z_mR 166 = 1 := id rfl
theorem zm_L_166 : z_mL 166 = 4 := id rfl
theorem zm_K_167 : z_mK 167 = 6 := id rfl
theorem zm_B_167 : z_mB 167 = 0 := id rfl
theorem zm_R_167 : z_mR 167 = 0 := id rfl
theorem zm_L_167 : z_mL 167 = 8 := id rfl
theorem zm_K_168 : z_mK 168 = 6 := id rfl
theorem zm_B_168 : z_mB 168 = 0 := id rfl
theorem zm_R_168 : z_mR 168 = 0 := id rfl
theorem zm_L_168 : z_mL 168 = 6 := id rfl
theorem zm_K_169 : z_mK 169 = 6 := id rfl
theorem zm_B_169 : z_mB 169 = 0 := id rfl
theorem zm_R_169 : z_mR 169 = 1 := id rfl
theorem zm_L_169 : z_mL 169 = 2 := id rfl
theorem zm_K_170 : z_mK 170 = 6 := id rfl
theorem zm_B_170 : z_mB 170 = 0 := id rfl
theorem zm_R_170 : z_mR 170 = 0 := id rfl
theorem zm_L_170 : z_mL 170 = 5 := id rfl
theorem zm_K_171 : z_mK 171 = 6 := id rfl
theorem zm_B_171 : z_mB 171 = 0 := id rfl
theorem zm_R_171 : z_mR 171 = 1 := id rfl
theorem zm_L_171 : z_mL 171 = 3 := id rfl
theorem zm_K_172 : z_mK 172 = 6 := id rfl
theorem zm_B_172 : z_mB 172 = 0 := id rfl
theorem zm_R_172 : z_mR 172 = 1 := id rfl
theorem zm_L_172 : z_mL 172 = 10 := id rfl
theorem zm_K_173 : z_mK 173 = 6 := id rfl
theorem zm_B_173 : z_mB 173 = 0 := id rfl
theorem zm_R_173 : z_mR 173 = 1 := id rfl
theorem zm_L_173 : z_mL 173 = 4 := id rfl
theorem zm_K_174 : z_mK 174 = 6 := id rfl
theorem zm_B_174 : z_mB 174 = 0 := id rfl
theorem zm_R_174 : z_mR 174 = 2 := id rfl
theorem zm_L_174 : z_mL 174 = 2 := id rfl
theorem zm_K_175 : z_mK 175 = 6 := id rfl
theorem zm_B_175 : z_mB 175 = 0 := id rfl
theorem zm_R_175 : z_mR 175 = 1 := id rfl
theorem zm_L_175 : z_mL 175 = 4 := id rfl
theorem zm_K_176 : z_mK 176 = 6 := id rfl
theorem zm_B_176 : z_mB 176 = 0 := id rfl
theorem zm_R_176 : z_mR 176 = 1 := id rfl
theorem zm_L_176 : z_mL 176 = 7 := id rfl
theorem zm_K_177 : z_mK 177 = 6 := id rfl
theorem zm_B_177 : z_mB 177 = 0 := id rfl
theorem zm_R_177 : z_mR 177 = 2 := id rfl
theorem zm_L_177 : z_mL 177 = 2 := id rfl
theorem zm_K_178 : z_mK 178 = 6 := id rfl
theorem zm_B_178 : z_mB 178 = 0 := id rfl
theorem zm_R_178 : z_mR 178 = 1 := id rfl
theorem zm_L_178 : z_mL 178 = 2 := id rfl
theorem zm_K_179 : z_mK 179 = 6 := id rfl
theorem zm_B_179 : z_mB 179 = 0 := id rfl
theorem zm_R_179 : z_mR 179 = 2 := id rfl
theorem zm_L_179 : z_mL 179 = 3 := id rfl
theorem zm_K_180 : z_mK 180 = 6 := id rfl
theorem zm_B_180 : z_mB 180 = 0 := id rfl
theorem zm_R_180 : z_mR 180 = 1 := id rfl
theorem zm_L_180 : z_mL 180 = 2 := id rfl
theorem zm_K_181 : z_mK 181 = 6 := id rfl
theorem zm_B_181 : z_mB 181 = 0 := id rfl
theorem zm_R_181 : z_mR 181 = 0 := id rfl
theorem zm_L_181 : z_mL 181 = 3 := id rfl
theorem zm_K_182 : z_mK 182 = 6 := id rfl
theorem zm_B_182 : z_mB 182 = 0 := id rfl
theorem zm_R_182 : z_mR 182 = 1 := id rfl
theorem zm_L_182 : z_mL 182 = 2 := id rfl
theorem zm_K_183 : z_mK 183 = 6 := id rfl
theorem zm_B_183 : z_mB 183 = 0 := id rfl
theorem zm_R_183 : z_mR 183 = 0 := id rfl
theorem zm_L_183 : z_mL 183 = 7 := id rfl
theorem zm_K_184 : z_mK 184 = 6 := id rfl
theorem zm_B_184 : z_mB 184 = 0 := id rfl
theorem zm_R_184 : z_mR 184 = 1 := id rfl
theorem zm_L_184 : z_mL 184 = 5 := id rfl
theorem zm_K_185 : z_mK 185 = 6 := id rfl
theorem zm_B_185 : z_mB 185 = 0 := id rfl
theorem zm_R_185 : z_mR 185 = 1 := id rfl
theorem zm_L_185 : z_mL 185 = 6 := id rfl
theorem zm_K_186 : z_mK 186 = 6 := id rfl
theorem zm_B_186 : z_mB 186 = 0 := id rfl
theorem zm_R_186 : z_mR 186 = 0 := id rfl
theorem zm_L_186 : z_mL 186 = 7 := id rfl
theorem zm_K_187 : z_mK 187 = 6 := id rfl
theorem zm_B_187 : z_mB 187 = 0 := id rfl
theorem zm_R_187 : z_mR 187 = 0 := id rfl
theorem zm_L_187 : z_mL 187 = 3 := id rfl
theorem zm_K_188 : z_mK 188 = 6 := id rfl
theorem zm_B_188 : z_mB 188 = 0 := id rfl
theorem zm_R_188 : z_mR 188 = 1 := id rfl
theorem zm_L_188 : z_mL 188 = 10 := id rfl
theorem zm_K_189 : z_mK 189 = 6 := id rfl
theorem zm_B_189 : z_mB 189 = 0 := id rfl
theorem zm_R_189 : z_mR 189 = 1 := id rfl
theorem zm_L_189 : z_mL 189 = 8 := id rfl
theorem zm_K_190 : z_mK 190 = 6 := id rfl
theorem zm_B_190 : z_mB 190 = 0 := id rfl
theorem zm_R_190 : z_mR 190 = 1 := id rfl
theorem zm_L_190 : z_mL 190 = 8 := id rfl
theorem zm_K_191 : z_mK 191 = 6 := id rfl
theorem zm_B_191 : z_mB 191 = 0 := id rfl
theorem zm_R_191 : z_mR 191 = 1 := id rfl
theorem zm_L_191 : z_mL 191 = 9 := id rfl
theorem zm_K_192 : z_mK 192 = 6 := id rfl
theorem zm_B_192 : z_mB 192 = 0 := id rfl
theorem zm_R_192 : z_mR 192 = 1 := id rfl
theorem zm_L_192 : z_mL 192 = 6 := id rfl
theorem zm_K_193 : z_mK 193 = 6 := id rfl
theorem zm_B_193 : z_mB 193 = 0 := id rfl
theorem zm_R_193 : z_mR 193 = 1 := id rfl
theorem zm_L_193 : z_mL 193 = 5 := id rfl
theorem zm_K_194 : z_mK 194 = 6 := id rfl
theorem zm_B_194 : z_mB 194 = 0 := id rfl
theorem zm_R_194 : z_mR 194 = 1 := id rfl
theorem zm_L_194 : z_mL 194 = 4 := id rfl
theorem zm_K_195 : z_mK 195 = 6 := id rfl
theorem zm_B_195 : z_mB 195 = 0 := id rfl
theorem zm_R_195 : z_mR 195 = 1 := id rfl
theorem zm_L_195 : z_mL 195 = 2 := id rfl
theorem zm_K_196 : z_mK 196 = 6 := id rfl
theorem zm_B_196 : z_mB 196 = 0 := id rfl
theorem zm_R_196 : z_mR 196 = 0 := id rfl
theorem zm_L_196 : z_mL 196 = 3 := id rfl
theorem zm_K_197 : z_mK 197 = 6 := id rfl
theorem zm_B_197 : z_mB 197 = 0 := id rfl
theorem zm_R_197 : z_mR 197 = 0 := id rfl
theorem zm_L_197 : z_mL 197 = 2 := id rfl
theorem zm_K_198 : z_mK 198 = 6 := id rfl
theorem zm_B_198 : z_mB 198 = 0 := id rfl
theorem zm_R_198 : z_mR 198 = 1 := id rfl
theorem zm_L_198 : z_mL 198 = 3 := id rfl
theorem zm_K_199 : z_mK 199 = 6 := id rfl
theorem zm_B_199 : z_mB 199 = 0 := id rfl
theorem zm_R_199 : z_mR 199 = 3 := id rfl
theorem zm_L_199 : z_mL 199 = 6 := id rfl
theorem zm_K_200 : z_mK 200 = 6 := id rfl
theorem zm_B_200 : z_mB 200 = 0 := id rfl
theorem zm_R_200 : z_mR 200 = 1 := id rfl
theorem zm_L_200 : z_mL 200 = 4 := id rfl
theorem zm_K_201 : z_mK 201 = 6 := id rfl
theorem zm_B_201 : z_mB 201 = 0 := id rfl
theorem zm_R_201 : z_mR 201 = 1 := id rfl
theorem zm_L_201 : z_mL 201 = 5 := id rfl
theorem zm_K_202 : z_mK 202 = 6 := id rfl
theorem zm_B_202 : z_mB 202 = 0 := id rfl
theorem zm_R_202 : z_mR 202 = 3 := id rfl
theorem zm_L_202 : z_mL 202 = 3 := id rfl
theorem zm_K_203 : z_mK 203 = 6 := id rfl
theorem zm_B_203 : z_mB 203 = 0 := id rfl
theorem zm_R_203 : z_mR 203 = 1 := id rfl
theorem zm_L_203 : z_mL 203 = 3 := id rfl
theorem zm_K_204 : z_mK 204 = 6 := id rfl
theorem zm_B_204 : z_mB 204 = 0 := id rfl
theorem zm_R_204 : z_mR 204 = 1 := id rfl
theorem zm_L_204 : z_mL 204 = 3 := id rfl
theorem zm_K_205 : z_mK 205 = 6 := id rfl
theorem zm_B_205 : z_mB 205 = 0 := id rfl
theorem zm_R_205 : z_mR 205 = 1 := id rfl
theorem zm_L_205 : z_mL 205 = 4 := id rfl
theorem zm_K_206 : z_mK 206 = 6 := id rfl
theorem zm_B_206 : z_mB 206 = 0 := id rfl
theorem zm_R_206 : z_mR 206 = 1 := id rfl
theorem zm_L_206 : z_mL 206 = 3 := id rfl
theorem zm_K_207 : z_mK 207 = 6 := id rfl
theorem zm_B_207 : z_mB 207 = 0 := id rfl
theorem zm_R_207 : z_mR 207 = 1 := id rfl
theorem zm_L_207 : z_mL 207 = 6 := id rfl
theorem zm_K_208 : z_mK 208 = 6 := id rfl
theorem zm_B_208 : z_mB 208 = 0 := id rfl
theorem zm_R_208 : z_mR 208 = 1 := id rfl
theorem zm_L_208 : z_mL 208 = 4 := id rfl
theorem zm_K_209 : z_mK 209 = 6 := id rfl
theorem zm_B_209 : z_mB 209 = 0 := id rfl
theorem zm_R_209 : z_mR 209 = 1 := id rfl
theorem zm_L_209 : z_mL 209 = 5 := id rfl
theorem zm_K_210 : z_mK 210 = 6 := id rfl
theorem zm_B_210 : z_mB 210 = 0 := id rfl
theorem zm_R_210 : z_mR 210 = 1 := id rfl
theorem zm_L_210 : z_mL 210 = 5 := id rfl
theorem zm_K_211 : z_mK 211 = 6 := id rfl
theorem zm_B_211 : z_mB 211 = 0 := id rfl
theorem zm_R_211 : z_mR 211 = 1 := id rfl
theorem zm_L_211 : z_mL 211 = 8 := id rfl
theorem zm_K_212 : z_mK 212 = 6 := id rfl
theorem zm_B_212 : z_mB 212 = 0 := id rfl
theorem zm_R_212 : z_mR 212 = 1 := id rfl
theorem zm_L_212 : z_mL 212 = 9 := id rfl
theorem zm_K_213 : z_mK 213 = 6 := id rfl
theorem zm_B_213 : z_mB 213 = 0 := id rfl
theorem zm_R_213 : z_mR 213 = 1 := id rfl
theorem zm_L_213 : z_mL 213 = 5 := id rfl
theorem zm_K_214 : z_mK 214 = 6 := id rfl
theorem zm_B_214 : z_mB 214 = 0 := id rfl
theorem zm_R_214 : z_mR 214 = 1 := id rfl
theorem zm_L_214 : z_mL 214 = 7 := id rfl
theorem zm_K_215 : z_mK 215 = 6 := id rfl
theorem zm_B_215 : z_mB 215 = 0 := id rfl
theorem zm_R_215 : z_mR 215 = 1 := id rfl
theorem zm_L_215 : z_mL 215 = 8 := id rfl
theorem zm_K_216 : z_mK 216 = 6 := id rfl
theorem zm_B_216 : z_mB 216 = 0 := id rfl
theorem zm_R_216 : z_mR 216 = 2 := id rfl
theorem zm_L_216 : z_mL 216 = 4 := id rfl
theorem zm_K_217 : z_mK 217 = 6 := id rfl
theorem zm_B_217 : z_mB 217 = 0 := id rfl
theorem zm_R_217 : z_mR 217 = 1 := id rfl
theorem zm_L_217 : z_mL 217 = 9 := id rfl
theorem zm_K_218 : z_mK 218 = 6 := id rfl
theorem zm_B_218 : z_mB 218 = 0 := id rfl
theorem zm_R_218 : z_mR 218 = 1 := id rfl
theorem zm_L_218 : z_mL 218 = 3 := id rfl
theorem zm_K_219 : z_mK 219 = 6 := id rfl
theorem zm_B_219 : z_mB 219 = 0 := id rfl
theorem zm_R_219 : z_mR 219 = 1 := id rfl
theorem zm_L_219 : z_mL 219 = 4 := id rfl
theorem zm_K_220 : z_mK 220 = 6 := id rfl
theorem zm_B_220 : z_mB 220 = 0 := id rfl
theorem zm_R_220 : z_mR 220 = 1 := id rfl
theorem zm_L_220 : z_mL 220 = 4 := id rfl
theorem zm_K_221 : z_mK 221 = 6 := id rfl
theorem zm_B_221 : z_mB 221 = 0 := id rfl
theorem zm_R_221 : z_mR 221 = 1 := id rfl
theorem zm_L_221 : z_mL 221 = 4 := id rfl
theorem zm_K_222 : z_mK 222 = 6 := id rfl
theorem zm_B_222 : z_mB 222 = 0 := id rfl
theorem zm_R_222 : z_mR 222 = 1 := id rfl
theorem zm_L_222 : z_mL 222 = 7 := id rfl
theorem zm_K_223 : z_mK 223 = 6 := id rfl
theorem zm_B_223 : z_mB 223 = 0 := id rfl
theorem zm_R_223 : z_mR 223 = 1 := id rfl
theorem zm_L_223 : z_mL 223 = 2 := id rfl
theorem zm_K_224 : z_mK 224 = 6 := id rfl
theorem zm_B_224 : z_mB 224 = 0 := id rfl
theorem zm_R_224 : z_mR 224 = 1 := id rfl
theorem zm_L_224 : z_mL 224 = 4 := id rfl
theorem zm_K_225 : z_mK 225 = 6 := id rfl
theorem zm_B_225 : z_mB 225 = 0 := id rfl
theorem zm_R_225 : z_mR 225 = 1 := id rfl
theorem zm_L_225 : z_mL 225 = 1 := id rfl
theorem zm_K_226 : z_mK 226 = 8 := id rfl
theorem zm_B_226 : z_mB 226 = 0 := id rfl
theorem zm_R_226 : z_mR 226 = 1 := id rfl
theorem zm_L_226 : z_mL 226 = 2 := id rfl
theorem zm_K_227 : z_mK 227 = 8 := id rfl
theorem zm_B_227 : z_mB 227 = 0 := id rfl
theorem zm_R_227 : z_mR 227 = 1 := id rfl
theorem zm_L_227 : z_mL 227 = 2 := id rfl
theorem zm_K_228 : z_mK 228 = 9 := id rfl
theorem zm_B_228 : z_mB 228 = 0 := id rfl
theorem zm_R_228 : z_mR 228 = 1 := id rfl
theorem zm_L_228 : z_mL 228 = 1 := id rfl
end Eqs
