/-! ===== THE CODE TABLES AGAINST THE STATEMENT'S BYTES ===== -/
def z_chk1 (own mL pc : Nat) (c : ByteArray) (x : zN) : Bool := match x with
  | (.iconst n, l, _, _, z, _) => Nat.beq l 1 && decide (Int32.ofInt n = z)
  | (.bipush n, l, _, _, z, _) => Nat.beq l 2 && decide ((Int8.ofInt n).toInt32 = z)
  | (.sipush n, l, _, _, z, _) => Nat.beq l 3 && decide ((Int16.ofInt n).toInt32 = z)
  | (.ldc n, l, _, _, z, _) => Nat.beq l 2 && decide ((own, n, z) ∈ z_CI)
  | (.ldc_w n, l, _, _, z, _) => Nat.beq l 3 && decide ((own, n, z) ∈ z_CI)
  | (.lconst n, l, _, _, _, w) => Nat.beq l 1 && decide (Int64.ofNat (n : Nat) = w)
  | (.ldc2_w n, l, _, _, _, w) => Nat.beq l 3 && decide ((own, n, w) ∈ z_CJ)
  | (.iload _, l, _, _, _, _) => Nat.beq l 2
  | (.lload _, l, _, _, _, _) => Nat.beq l 2
  | (.aload _, l, _, _, _, _) => Nat.beq l 2
  | (.istore n, l, _, _, _, _) => Nat.beq l 2 && decide (n < mL)
  | (.lstore n, l, _, _, _, _) => Nat.beq l 2 && decide (n + 1 < mL)
  | (.astore n, l, _, _, _, _) => Nat.beq l 2 && decide (n < mL)
  | (.istore_n n, l, _, _, _, _) => Nat.beq l 1 && decide (n.val < mL)
  | (.lstore_n n, l, _, _, _, _) => Nat.beq l 1 && decide (n.val + 1 < mL)
  | (.astore_n n, l, _, _, _, _) => Nat.beq l 1 && decide (n.val < mL)
  | (.iinc n k, l, _, _, z, _) => Nat.beq l 3 && (decide (n < mL) && decide (Int32.ofInt k = z))
  | (.goto off, l, a, _, _, _) => Nat.beq l 3 && decide ((pc : Int) + off = (a : Int))
  | (.if_icmp _ off, l, a, _, _, _) => Nat.beq l 3 && decide ((pc : Int) + off = (a : Int))
  | (.ifCond _ off, l, a, _, _, _) => Nat.beq l 3 && decide ((pc : Int) + off = (a : Int))
  | (.ifnull off, l, a, _, _, _) => Nat.beq l 3 && decide ((pc : Int) + off = (a : Int))
  | (.ifnonnull off, l, a, _, _, _) => Nat.beq l 3 && decide ((pc : Int) + off = (a : Int))
  | (.tableswitch d lo hi offs, _, a, _, _, _) => decide ((pc : Int) + d = (a : Int)) && (decide ((offs.toList.length : Int) = hi - lo + 1) && offs.toList.all fun o => decide (0 ≤ (pc : Int) + o))
  | (.getfield n, l, a, b, _, _) => Nat.beq l 3 && decide ((own, n, a, b) ∈ z_FL)
  | (.putfield n, l, a, b, _, _) => Nat.beq l 3 && (decide ((own, n, a, b) ∈ z_FL) && !(z_TT a b).2.2.2)
  | (.invokevirtual n, l, a, b, _, _) => Nat.beq l 3 && (decide ((own, n, a) ∈ z_ML) && (Nat.beq b (z_mA a) && (Nat.beq (z_mS a) 0 && decide (0 < a))))
  | (.invokestatic n, l, a, b, _, _) => Nat.beq l 3 && (decide ((own, n, a) ∈ z_ML) && ((Nat.beq b (z_mA a) && (Nat.beq (z_mS a) 1 && decide (0 < a))) || Nat.beq a 999))
  | (.new n, l, _, _, _, _) => Nat.beq l 7 && (Nat.beq own 5 && (Nat.beq n 7 && (decide (decode c (pc + 3) = .ok (.dup, 1)) && decide (decode c (pc + 4) = .ok (.invokespecial 9, 3)))))
  | (_, l, _, _, _, _) => Nat.beq l 1
def z_l1 (x : zN) : Nat := match x.1 with
  | .new _ => 3
  | _ => x.2.1
def z_chk (own mL : Nat) (c : ByteArray) : Nat → List zN → Bool
  | _, [] => true
  | pc, x :: is => decide (decode c pc = .ok (x.1, z_l1 x)) && (z_chk1 own mL pc c x && z_chk own mL c (pc + x.2.1) is)

