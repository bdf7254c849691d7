/-! ===== A SMALL MACHINE OVER A TYPED MEMORY: values, memory, one instruction as a predicate transformer, blocks, frames, calls ===== -/
section Mach
abbrev zV : Type := Int32 ⊕ (Int64 ⊕ Option (Nat × Nat × Nat))
abbrev zi (x : Int32) : zV := Sum.inl x
abbrev zl (x : Int64) : zV := Sum.inr (Sum.inl x)
abbrev zr (h : Option (Nat × Nat × Nat)) : zV := Sum.inr (Sum.inr h)
abbrev zS : Type := (Nat → Nat → Nat → Int32) × (Nat → Nat → Nat → Int64)
abbrev zM : Type := (Nat → zS) × (Nat → Option Nat) × Nat
abbrev zL : Type := List (Option zV)
abbrev zJ : Type := Nat → zL → List zV → zM → Nat → Prop
abbrev zK : Type := zL → List zV → zM → Nat → Prop
abbrev zQ : Type := Option zV → zM → Prop
/-- the script: its length, its ints -/
abbrev zX : Type := Option (Nat × (Nat → Int32))
abbrev zC : Type := Nat → List zV → zM → zQ → Prop
/-- a region's slice; another slice in a region; one int, one long of a slice -/
def z_g (m : zM) (r : Nat) : zS := m.1 r
def z_s (m : zM) (r : Nat) (S : zS) : zM := (fun q => if q = r then S else m.1 q, m.2)
def z_I (S : zS) (k i f : Nat) : Int32 := S.1 k i f
def z_J (S : zS) (k i f : Nat) : Int64 := S.2 k i f
def z_uI (S : zS) (k i f : Nat) (v : Int32) : zS := (fun k' i' f' => if k' = k ∧ i' = i ∧ f' = f then v else S.1 k' i' f', S.2)
def z_uJ (S : zS) (k i f : Nat) (v : Int64) : zS := (S.1, fun k' i' f' => if k' = k ∧ i' = i ∧ f' = f then v else S.2 k' i' f')
/-- a whole row of ints out of another slice -/
def z_cp (S : zS) (k i : Nat) (T : zS) (k2 i2 : Nat) : zS := (fun k' i' f' => if k' = k ∧ i' = i then T.1 k2 i2 f' else S.1 k' i' f', S.2)
def z_d (m : zM) (j : Nat) : Option Nat := m.2.1 j
def z_sd (m : zM) (j : Nat) (v : Option Nat) : zM := (m.1, (fun q => if q = j then v else m.2.1 q), m.2.2)
def z_nb (m : zM) : Nat := m.2.2
def z_b0 : zS := (fun k _ f => if k = 0 ∧ f = 1 then 30 else if k = 0 ∧ f = 2 then 1 else 0, fun _ _ _ => 0)
def z_nw (m : zM) : zM := (fun q => if q = m.2.2 then z_b0 else m.1 q, m.2.1, m.2.2 + 1)
/-- the fields' sorts: 0 int, 1 long, 2 a fixed reference, 3 the reference that changes -/
def z_fT (k f : Nat) : Nat := (([[0,0,0,0,0,0,2,2,2,2,2,0], [0,0,0,1,1], [2,2,0,0,0], [0,0,0,0,0,0,0,0,0,0,0,0,0,1,1,2], [2,2,0], [2,3,2,2,2,0,0,0,0,0,0,0,2], [0,0,2,2,2,2,2,2,0,2,2,2,2,2,2,0,2,0]] : List (List Nat)).getD k []).getD f 9
/-- the kind that a fixed reference leads to -/
def z_fK (k f : Nat) : Nat := (([[0,0,0,0,0,0,7,8,9,10,11,0], [], [12,13,0,0,0], [0,0,0,0,0,0,0,0,0,0,0,0,0,0,0,14], [15,16,0], [0,0,17,18,19,0,0,0,0,0,0,0,20], [0,0,21,22,23,24,25,26,0,27,28,29,30,31,32,0,33,0]] : List (List Nat)).getD k []).getD f 99
def z_fR (k r f : Nat) : Nat := match k, f with
  | 5, 0 => 2
  | _, _ => r
/-- rows of ints: their lengths -/
def z_ik (k : Nat) : Option Nat := ([none, none, none, none, none, none, none, none, none, none, none, some 40, some 13, some 13, some 4, some 5, some 4, none, none, some 8, some 12, some 6, some 891, none, some 7128, none, some 8, some 1782, none, none, some 891, none, some 4, some 12] : List (Option Nat)).getD k none
def z_is (sc : zX) (k : Nat) : Option Nat := match k with
  | 34 => sc.map fun q => q.1
  | k => z_ik k
def z_iv (sc : zX) (m : zM) (h : Nat × Nat × Nat) (j : Nat) : Int32 := match h.1 with
  | 34 => match sc with
    | some q => q.2 j
    | none => 0
  | k => z_I (z_g m h.2.1) k h.2.2 j
/-- rows of longs -/
def z_lk (k : Nat) : Option Nat := match k with
  | 23 => some 88
  | 25 => some 704
  | 28 => some 176
  | 31 => some 88
  | _ => none
/-- rows of references: length; the kind of what they hold, or the first of the places that change -/
def z_rk (k : Nat) : Option (Nat × (Nat ⊕ Nat)) := match k with
  | 7 => some (4, .inl 1)
  | 8 => some (6, .inl 4)
  | 9 => some (5, .inl 2)
  | 10 => some (40, .inl 3)
  | 17 => some (2, .inr 1)
  | 18 => some (8, .inr 3)
  | _ => none
def z_bk (b : Option Nat) : zV := zr (b.map fun q => (0, q, 0))
def z_gf (m : zM) (h : Nat × Nat × Nat) (f : Nat) : zV := match z_fT h.1 f with
  | 0 => zi (z_I (z_g m h.2.1) h.1 h.2.2 f)
  | 1 => zl (z_J (z_g m h.2.1) h.1 h.2.2 f)
  | 2 => zr (some (z_fK h.1 f, z_fR h.1 h.2.1 f, h.2.2))
  | _ => z_bk (z_d m 0)
def z_pf (m : zM) (h : Nat × Nat × Nat) (f : Nat) (v : zV) (K : zM → Prop) : Prop := match z_fT h.1 f, v with
  | 0, .inl x => K (z_s m h.2.1 (z_uI (z_g m h.2.1) h.1 h.2.2 f x))
  | 1, .inr (.inl x) => K (z_s m h.2.1 (z_uJ (z_g m h.2.1) h.1 h.2.2 f x))
  | 3, .inr (.inr (some g)) => match g.1 with
    | 0 => K (z_sd m 0 (some g.2.1))
    | _ => False
  | _, _ => False
/-- locals -/
def z_ld : zL → Nat → Option zV
  | [], _ => none
  | a :: _, 0 => a
  | _ :: l, n + 1 => z_ld l n
def z_nl (a : Option zV) : Option zV := match a with
  | some (.inr (.inl _)) => none
  | a => a
def z_st : zL → Nat → zV → zL
  | [], _, _ => []
  | _ :: l, 0, v => some v :: l
  | a :: l, n + 1, v => match n with
    | 0 => z_nl a :: z_st l 0 v
    | n + 1 => a :: z_st l (n + 1) v
def z_lc : zL → Nat → zL
  | [], _ => []
  | _ :: l, 0 => none :: l
  | a :: l, n + 1 => a :: z_lc l n
def z_li (a : Option zV) (K : Int32 → Prop) : Prop := match a with
  | some (.inl x) => K x
  | _ => False
def z_ll (a : Option zV) (K : Int64 → Prop) : Prop := match a with
  | some (.inr (.inl x)) => K x
  | _ => False
def z_lr (a : Option zV) (K : Option (Nat × Nat × Nat) → Prop) : Prop := match a with
  | some (.inr (.inr x)) => K x
  | _ => False
/-- what lies on the stack -/
def z_p1 (st : List zV) (K : Int32 → List zV → Prop) : Prop := match st with
  | .inl x :: st => K x st
  | _ => False
def z_p2 (st : List zV) (K : Int32 → Int32 → List zV → Prop) : Prop := match st with
  | .inl y :: .inl x :: st => K x y st
  | _ => False
def z_q1 (st : List zV) (K : Int64 → List zV → Prop) : Prop := match st with
  | .inr (.inl x) :: st => K x st
  | _ => False
def z_q2 (st : List zV) (K : Int64 → Int64 → List zV → Prop) : Prop := match st with
  | .inr (.inl y) :: .inr (.inl x) :: st => K x y st
  | _ => False
def z_r1 (st : List zV) (K : Option (Nat × Nat × Nat) → List zV → Prop) : Prop := match st with
  | .inr (.inr h) :: st => K h st
  | _ => False
def z_h1 (st : List zV) (K : (Nat × Nat × Nat) → List zV → Prop) : Prop := match st with
  | .inr (.inr (some h)) :: st => K h st
  | _ => False
/-- a place of a row: the index above the row -/
def z_a1 (st : List zV) (K : Int32 → (Nat × Nat × Nat) → List zV → Prop) : Prop := match st with
  | .inl i :: .inr (.inr (some h)) :: st => K i h st
  | _ => False
def z_c1 (v : zV) (K : Prop) : Prop := match v with
  | .inr (.inl _) => False
  | _ => K
def z_pops : Nat → List zV → List zV → Option (List zV × List zV)
  | 0, a, st => some (a, st)
  | _ + 1, _, [] => none
  | n + 1, a, v :: st => z_pops n (v :: a) st
def z_psh (r : Option zV) (st : List zV) : List zV := match r with
  | none => st
  | some v => v :: st
def z_ok (b : Bool) (K : Prop) : Prop := match b with
  | true => K
  | false => False
/-- static methods that are no methods of the table: System.arraycopy, Math.max, Math.min -/
def z_sp (j : Nat) : Nat := if j = 999 then 1 else if j = 226 then 2 else if j = 227 then 3 else 0
def z_sh : List zV → Nat → Bool
  | [], _ => true
  | _ :: _, 0 => false
  | _ :: l, n + 1 => z_sh l n
def z_on (o : Option Nat) (K : Nat → Prop) : Prop := match o with
  | some n => K n
  | none => False
def z_sw (J : Nat → Prop) (pc : Nat) (x : Int) : Int → List Int → Prop
  | _, [] => True
  | lo, o :: os => (x = lo → J ((pc : Int) + o).toNat) ∧ z_sw J pc x (lo + 1) os
def z_br (c : Prop) (A B : Prop) : Prop := (c → A) ∧ (¬ c → B)
/-- System.arraycopy of a whole row of ints into one of another region -/
def z_ac (m : zM) (as : List zV) (K : zM → Prop) : Prop := match as with
  | [.inr (.inr (some h)), .inl a, .inr (.inr (some g)), .inl b, .inl n] => h.2.1 ≠ g.2.1 ∧ a = 0 ∧ b = 0 ∧ z_ik h.1 = some n.toNatClampNeg ∧ z_ik g.1 = some n.toNatClampNeg ∧ 0 ≤ n ∧ K (z_s m g.2.1 (z_cp (z_g m g.2.1) g.1 g.2.2 (z_g m h.2.1) h.1 h.2.2))
  | _ => False
def z_rc (as : List zV) (k : Nat) (K : Prop) : Prop := match as with
  | .inr (.inr (some h)) :: _ => z_ok (Nat.beq h.1 k) K
  | _ => False
def z_po (n : Nat) (st : List zV) (K : List zV → List zV → Prop) : Prop := match z_pops n [] st with
  | some (as, st) => K as st
  | none => False
/-- returns -/
def z_ri (st : List zV) (rt : Nat) (Q : Option zV → Prop) : Prop := match st, rt with
  | [.inl v], 1 => Q (some (zi v))
  | [.inl v], 2 => (v = 0 ∨ v = 1) ∧ Q (some (zi v))
  | _, _ => False
def z_rl (st : List zV) (rt : Nat) (Q : Option zV → Prop) : Prop := match st, rt with
  | [.inr (.inl v)], 3 => Q (some (zl v))
  | _, _ => False
def z_ra (st : List zV) (rt : Nat) (Q : Option zV → Prop) : Prop := match st, rt with
  | [.inr (.inr (some h))], 4 => Q (some (zr (some h)))
  | _, _ => False
def z_rv (st : List zV) (rt : Nat) (Q : Prop) : Prop := match st, rt with
  | [], 0 => Q
  | _, _ => False
/-- one instruction: what must hold before it, so that K holds behind it (J: at a target, Q: at a return) -/
def z_ex (C : zC) (Q : zQ) (B rt dp : Nat) (sc : zX) (J : zJ) (pc : Nat) (x : zN) (K : zK) (ls : zL) (st : List zV) (m : zM) (u : Nat) : Prop :=
  match x with
  | (.iconst _, _, _, _, z, _) => K ls (zi z :: st) m u
  | (.bipush _, _, _, _, z, _) => K ls (zi z :: st) m u
  | (.sipush _, _, _, _, z, _) => K ls (zi z :: st) m u
  | (.ldc _, _, _, _, z, _) => K ls (zi z :: st) m u
  | (.ldc_w _, _, _, _, z, _) => K ls (zi z :: st) m u
  | (.lconst _, _, _, _, _, w) => K ls (zl w :: st) m u
  | (.ldc2_w _, _, _, _, _, w) => K ls (zl w :: st) m u
  | (.iload n, _, _, _, _, _) => z_li (z_ld ls n) fun v => K ls (zi v :: st) m u
  | (.iload_n n, _, _, _, _, _) => z_li (z_ld ls n.val) fun v => K ls (zi v :: st) m u
  | (.lload n, _, _, _, _, _) => z_ll (z_ld ls n) fun v => K ls (zl v :: st) m u
  | (.lload_n n, _, _, _, _, _) => z_ll (z_ld ls n.val) fun v => K ls (zl v :: st) m u
  | (.aload n, _, _, _, _, _) => z_lr (z_ld ls n) fun v => K ls (zr v :: st) m u
  | (.aload_n n, _, _, _, _, _) => z_lr (z_ld ls n.val) fun v => K ls (zr v :: st) m u
  | (.istore n, _, _, _, _, _) => z_p1 st fun v st => K (z_st ls n (zi v)) st m u
  | (.istore_n n, _, _, _, _, _) => z_p1 st fun v st => K (z_st ls n.val (zi v)) st m u
  | (.lstore n, _, _, _, _, _) => z_q1 st fun v st => K (z_lc (z_st ls n (zl v)) (n + 1)) st m u
  | (.lstore_n n, _, _, _, _, _) => z_q1 st fun v st => K (z_lc (z_st ls n.val (zl v)) (n.val + 1)) st m u
  | (.astore n, _, _, _, _, _) => z_r1 st fun v st => K (z_st ls n (zr v)) st m u
  | (.astore_n n, _, _, _, _, _) => z_r1 st fun v st => K (z_st ls n.val (zr v)) st m u
  | (.iinc n _, _, _, _, z, _) => z_li (z_ld ls n) fun v => K (z_st ls n (zi (v + z))) st m u
  | (.iadd, _, _, _, _, _) => z_p2 st fun x y st => K ls (zi (x + y) :: st) m u
  | (.isub, _, _, _, _, _) => z_p2 st fun x y st => K ls (zi (x - y) :: st) m u
  | (.imul, _, _, _, _, _) => z_p2 st fun x y st => K ls (zi (x * y) :: st) m u
  | (.iand, _, _, _, _, _) => z_p2 st fun x y st => K ls (zi (x &&& y) :: st) m u
  | (.ishl, _, _, _, _, _) => z_p2 st fun x y st => K ls (zi (x <<< (y &&& 31)) :: st) m u
  | (.ishr, _, _, _, _, _) => z_p2 st fun x y st => K ls (zi (x >>> (y &&& 31)) :: st) m u
  | (.iushr, _, _, _, _, _) => z_p2 st fun x y st => K ls (zi ((x.toUInt32 >>> (y.toUInt32 &&& Int32.toUInt32 31)).toInt32) :: st) m u
  | (.idiv, _, _, _, _, _) => z_p2 st fun x y st => ¬ y = 0 ∧ K ls (zi (x / y) :: st) m u
  | (.irem, _, _, _, _, _) => z_p2 st fun x y st => ¬ y = 0 ∧ K ls (zi (x - x / y * y) :: st) m u
  | (.ineg, _, _, _, _, _) => z_p1 st fun x st => K ls (zi (-x) :: st) m u
  | (.i2l, _, _, _, _, _) => z_p1 st fun x st => K ls (zl x.toInt64 :: st) m u
  | (.ladd, _, _, _, _, _) => z_q2 st fun x y st => K ls (zl (x + y) :: st) m u
  | (.lsub, _, _, _, _, _) => z_q2 st fun x y st => K ls (zl (x - y) :: st) m u
  | (.lcmp, _, _, _, _, _) => z_q2 st fun x y st => K ls (zi (lg_cmp x y) :: st) m u
  | (.dup, _, _, _, _, _) => match st with
    | v :: st => z_c1 v (K ls (v :: v :: st) m u)
    | _ => False
  | (.dup2, _, _, _, _, _) => match st with
    | v :: w :: st => z_c1 v (z_c1 w (K ls (v :: w :: v :: w :: st) m u))
    | _ => False
  | (.pop, _, _, _, _, _) => match st with
    | v :: st => z_c1 v (K ls st m u)
    | _ => False
  | (.goto _, _, a, _, _, _) => J a ls st m u
  | (.if_icmp .eq _, _, a, _, _, _) => z_p2 st fun x y st => z_br (x = y) (J a ls st m u) (K ls st m u)
  | (.ifCond .eq _, _, a, _, _, _) => z_p1 st fun x st => z_br (x = 0) (J a ls st m u) (K ls st m u)
  | (.if_icmp .ne _, _, a, _, _, _) => z_p2 st fun x y st => z_br (x = y) (K ls st m u) (J a ls st m u)
  | (.ifCond .ne _, _, a, _, _, _) => z_p1 st fun x st => z_br (x = 0) (K ls st m u) (J a ls st m u)
  | (.if_icmp .lt _, _, a, _, _, _) => z_p2 st fun x y st => z_br (x < y) (J a ls st m u) (K ls st m u)
  | (.ifCond .lt _, _, a, _, _, _) => z_p1 st fun x st => z_br (x < 0) (J a ls st m u) (K ls st m u)
  | (.if_icmp .ge _, _, a, _, _, _) => z_p2 st fun x y st => z_br (y ≤ x) (J a ls st m u) (K ls st m u)
  | (.ifCond .ge _, _, a, _, _, _) => z_p1 st fun x st => z_br (0 ≤ x) (J a ls st m u) (K ls st m u)
  | (.if_icmp .gt _, _, a, _, _, _) => z_p2 st fun x y st => z_br (y < x) (J a ls st m u) (K ls st m u)
  | (.ifCond .gt _, _, a, _, _, _) => z_p1 st fun x st => z_br (0 < x) (J a ls st m u) (K ls st m u)
  | (.if_icmp .le _, _, a, _, _, _) => z_p2 st fun x y st => z_br (x ≤ y) (J a ls st m u) (K ls st m u)
  | (.ifCond .le _, _, a, _, _, _) => z_p1 st fun x st => z_br (x ≤ 0) (J a ls st m u) (K ls st m u)
  | (.ifnull _, _, a, _, _, _) => z_r1 st fun h st => z_br (h = none) (J a ls st m u) (K ls st m u)
  | (.ifnonnull _, _, a, _, _, _) => z_r1 st fun h st => z_br (h = none) (K ls st m u) (J a ls st m u)
  | (.tableswitch _ lo hi offs, _, a, _, _, _) => z_p1 st fun x st => ((x.toInt < lo ∨ hi < x.toInt) → J a ls st m u) ∧ z_sw (fun t => J t ls st m u) pc x.toInt lo offs.toList
  | (.getfield _, _, a, b, _, _) => z_h1 st fun h st => z_ok (Nat.beq h.1 a) (K ls (z_gf m h b :: st) m u)
  | (.putfield _, _, a, b, _, _) => match st with
    | v :: st => z_h1 st fun h st => z_ok (Nat.beq h.1 a) (z_pf m h b v fun m => K ls st m u)
    | _ => False
  | (.iaload, _, _, _, _, _) => z_a1 st fun i h st => z_on (z_is sc h.1) fun n => vp_in i n ∧ K ls (zi (z_iv sc m h i.toNatClampNeg) :: st) m u
  | (.laload, _, _, _, _, _) => z_a1 st fun i h st => z_on (z_lk h.1) fun n => vp_in i n ∧ K ls (zl (z_J (z_g m h.2.1) h.1 h.2.2 i.toNatClampNeg) :: st) m u
  | (.baload, _, _, _, _, _) => z_a1 st fun i h st => z_ok (Nat.beq h.1 29) (vp_in i 2 ∧ K ls (zi (z_I (z_g m h.2.1) h.1 h.2.2 i.toNatClampNeg) :: st) m u)
  | (.iastore, _, _, _, _, _) => z_p1 st fun v st => z_a1 st fun i h st => z_on (z_ik h.1) fun n => vp_in i n ∧ K ls st (z_s m h.2.1 (z_uI (z_g m h.2.1) h.1 h.2.2 i.toNatClampNeg v)) u
  | (.lastore, _, _, _, _, _) => z_q1 st fun v st => z_a1 st fun i h st => z_on (z_lk h.1) fun n => vp_in i n ∧ K ls st (z_s m h.2.1 (z_uJ (z_g m h.2.1) h.1 h.2.2 i.toNatClampNeg v)) u
  | (.bastore, _, _, _, _, _) => z_p1 st fun v st => z_a1 st fun i h st => z_ok (Nat.beq h.1 29) (vp_in i 2 ∧ v = 1 ∧ K ls st (z_s m h.2.1 (z_uI (z_g m h.2.1) h.1 h.2.2 i.toNatClampNeg 1)) u)
  | (.aaload, _, _, _, _, _) => z_a1 st fun i h st => match z_rk h.1 with
    | some (n, .inl k) => vp_in i n ∧ K ls (zr (some (k, h.2.1, i.toNatClampNeg)) :: st) m u
    | some (n, .inr b) => vp_in i n ∧ K ls (z_bk (z_d m (b + i.toNatClampNeg)) :: st) m u
    | none => False
  | (.aastore, _, _, _, _, _) => z_h1 st fun g st => z_ok (Nat.beq g.1 0) (z_a1 st fun i h st => match z_rk h.1 with
    | some (n, .inr b) => vp_in i n ∧ K ls st (z_sd m (b + i.toNatClampNeg) (some g.2.1)) u
    | _ => False)
  | (.arraylength, _, _, _, _, _) => z_h1 st fun h st => z_ok (Nat.beq h.1 34) (z_on (sc.map fun q => q.1) fun n => K ls (zi (nI n) :: st) m u)
  | (.invokevirtual _, _, j, n, _, _) => z_po (n + 1) st fun as st => z_ok (z_sh st 4) (z_rc as (z_mK j) (z_ok (Nat.ble (u + z_mB j) B) (C j as m fun r m => K ls (z_psh r st) m (u + z_mB j))))
  | (.invokestatic _, _, j, n, _, _) => match z_sp j with
    | 0 => z_po n st fun as st => z_ok (z_sh st 4) (z_ok (Nat.ble (u + z_mB j) B) (C j as m fun r m => K ls (z_psh r st) m (u + z_mB j)))
    | 1 => z_po 5 st fun as st => z_ok (z_sh st 4) (z_ac m as fun m => K ls st m u)
    | 2 => z_p2 st fun x y st => z_ok (z_sh st 4) (K ls (zi (if x < y then y else x) :: st) m u)
    | _ => z_p2 st fun x y st => z_ok (z_sh st 4) (K ls (zi (if y < x then y else x) :: st) m u)
  | (.new _, _, _, _, _, _) => z_ok ((Nat.ble (u + 1) B && Nat.ble 2 dp) && z_sh st 1) (K ls (zr (some (0, z_nb m, 0)) :: st) (z_nw m) (u + 1))
  | (.ireturn, _, _, _, _, _) => z_ri st rt fun r => Q r m
  | (.lreturn, _, _, _, _, _) => z_rl st rt fun r => Q r m
  | (.areturn, _, _, _, _, _) => z_ra st rt fun r => Q r m
  | (.return_, _, _, _, _, _) => z_rv st rt (Q none m)
  | _ => False
/-- a block -/
def z_blk (C : zC) (Q : zQ) (B rt dp : Nat) (sc : zX) (J : zJ) : List zN → Nat → zL → List zV → zM → Nat → Prop
  | [], pc, ls, st, m, u => J pc ls st m u
  | x :: is, pc, ls, st, m, u => z_ex C Q B rt dp sc J pc x (fun ls st m u => z_blk C Q B rt dp sc J is (pc + x.2.1) ls st m u) ls st m u
end Mach
