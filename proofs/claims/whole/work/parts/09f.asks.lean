/-! ===== THE CLASS: BondStores, questions (1) ===== -/
section Bs6
variable {d r i k g s r2 i2 l : Nat} {m : zM} {Q : zQ} {v w a b c e f : Int32}
-- a switch, as choices
def z_ch {α : Type} (x : Int32) (D : α) : Nat → List α → α
  | _, [] => D
  | n, A :: As => if x = nI n then A else z_ch x D (n + 1) As
theorem z_ch_f {α β : Type} (F : α → β) (x : Int32) (D : α) : ∀ (l : List α) (n : Nat), z_ch x (F D) n (l.map F) = F (z_ch x D n l)
  | [], _ => rfl
  | A :: As, n => by
    show (if x = nI n then F A else z_ch x (F D) (n + 1) (As.map F)) = F (if x = nI n then A else z_ch x D (n + 1) As)
    rw [z_ch_f F x D As (n + 1)]
    split <;> rfl
theorem z_ch_hi {α : Type} {x : Int32} {D : α} : ∀ (l : List α) (n : Nat), n + l.length < 2 ^ 31 → (x.toInt < n ∨ (n : Int) + l.length ≤ x.toInt) → z_ch x D n l = D
  | [], _, _, _ => rfl
  | A :: As, n, hn, h => by
    have hn : n + (As.length + 1) < 2 ^ 31 := hn
    have h : x.toInt < n ∨ (n : Int) + ((As.length + 1 : Nat) : Int) ≤ x.toInt := h
    have e : ¬ x = nI n := fun e => by
      rw [e, nI_toInt (by omega)] at h
      omega
    show (if x = nI n then A else z_ch x D (n + 1) As) = D
    rw [if_neg e]
    exact z_ch_hi As (n + 1) (by omega) (by omega)
theorem z_sw_ch {J : Nat → Prop} {pc : Nat} {x : Int32} : ∀ (os : List Int) (n : Nat) (D : Prop), n + os.length < 2 ^ 31 → (((x.toInt < n ∨ (n : Int) + os.length ≤ x.toInt) → D) ∧ z_sw J pc x.toInt n os) = z_ch x D n (os.map fun o => J ((pc : Int) + o).toNat)
  | [], n, D, hn => by
    show ((_ → D) ∧ True) = D
    have : x.toInt < n ∨ (n : Int) + (([] : List Int).length : Nat) ≤ x.toInt := by
      have := Int.lt_or_le x.toInt n
      simpa using this
    exact propext ⟨fun q => q.1 this, fun q => ⟨fun _ => q, trivial⟩⟩
  | o :: os, n, D, hn => by
    have hn : n + (os.length + 1) < 2 ^ 31 := hn
    have ih := z_sw_ch (J := J) (pc := pc) (x := x) os (n + 1) D (by omega)
    show (((x.toInt < n ∨ (n : Int) + ((os.length + 1 : Nat) : Int) ≤ x.toInt) → D) ∧ (x.toInt = n → J ((pc : Int) + o).toNat) ∧ z_sw J pc x.toInt ((n : Int) + 1) os) = if x = nI n then J ((pc : Int) + o).toNat else z_ch x D (n + 1) (os.map fun o => J ((pc : Int) + o).toNat)
    rw [← ih]
    have hx : x = nI n ↔ x.toInt = n := by
      rw [← Int32.toInt_inj, nI_toInt (by omega)]
    by_cases e : x = nI n
    · rw [if_pos e]
      have e2 := hx.mp e
      refine propext ⟨fun q => q.2.1 e2, fun q => ⟨fun h => by omega, fun _ => q, ?_⟩⟩
      have : ∀ (os : List Int) (lo : Int), x.toInt < lo → z_sw J pc x.toInt lo os := fun os => by
        induction os with
        | nil => intro lo _; trivial
        | cons o os ih => intro lo h; exact ⟨fun e => by omega, ih (lo + 1) (by omega)⟩
      exact this os _ (by omega)
    · rw [if_neg e]
      have e2 := mt hx.mpr e
      refine propext ⟨fun q => ⟨fun h => q.1 (by omega), q.2.2⟩, fun q => ⟨fun h => q.1 (by omega), fun h => absurd h e2, q.2⟩⟩
set_option maxRecDepth 100000 in
set_option maxHeartbeats 4000000 in
theorem zs_124 : z_call (d + 1) 124 [zr (some (5, 0, 0))] m Q = Q (some (zi (z_I (z_g m 0) 5 0 7))) m := by
  simp only [↓zen_124, ↓zu_124_0, ↓zx_nil, ↓zx_cons, ↓zp_li, ↓zp_ll, ↓zp_lr, ↓zq_li0, ↓zq_li1, ↓zq_ll0, ↓zq_ll1, ↓zq_lr0, ↓zq_lr1, ↓zk_0, ↓zk_1n, ↓zk_1i, ↓zk_1r, ↓zk_1l, ↓zk_2, zp_okt, ↓zp_okl, zp_sh0, zp_sh1, zp_psn, zp_pss, ↓zp_ri1, ↓zp_ri20, ↓zp_ri21, ↓zp_rl, ↓zp_ra, ↓zp_rv, ↓zp_br, ↓reduceIte, Nat.reduceAdd, Nat.zero_add, Nat.add_zero, Nat.le_refl, Nat.zero_le, ↓zx_aload_0, ↓zyg_5_7, ↓zx_iret]
section Tsw
variable {C : zC} {Q : zQ} {B rt dp : Nat} {sc : zX} {J : zJ} {pc : Nat} {K : zK} {ls : zL} {st : List zV} {m : zM} {u : Nat} {l a b n d : Nat} {z : Int32} {w : Int64} {x : Int32} {f : Int}
theorem zt_0_4 {p0 p1 p2 p3 : Int} : z_ex C Q B rt dp sc J pc (.tableswitch f 0 3 #[p0, p1, p2, p3], l, a, b, z, w) K ls (zi x :: st) m u = z_ch x (J a ls st m u) 0 [J ((pc : Int) + p0).toNat ls st m u, J ((pc : Int) + p1).toNat ls st m u, J ((pc : Int) + p2).toNat ls st m u, J ((pc : Int) + p3).toNat ls st m u] := by
  rw [zy_tsw]
  have h := z_sw_ch (J := fun t => J t ls st m u) (pc := pc) (x := x) [p0, p1, p2, p3] 0 (J a ls st m u) (by show 0 + 4 < 2 ^ 31; decide)
  refine Eq.trans ?_ h
  refine congrArg (fun P : Prop => P ∧ _) (propext ⟨fun q e => q ?_, fun q e => q ?_⟩)
  · rcases e with e | e
    · exact .inl e
    · exact .inr (by have : ((0 : Nat) : Int) + ((4 : Nat) : Int) ≤ x.toInt := e; omega)
  · rcases e with e | e
    · exact .inl e
    · exact .inr (by show ((0 : Nat) : Int) + ((4 : Nat) : Int) ≤ x.toInt; omega)
theorem zt_0_3 {p0 p1 p2 : Int} : z_ex C Q B rt dp sc J pc (.tableswitch f 0 2 #[p0, p1, p2], l, a, b, z, w) K ls (zi x :: st) m u = z_ch x (J a ls st m u) 0 [J ((pc : Int) + p0).toNat ls st m u, J ((pc : Int) + p1).toNat ls st m u, J ((pc : Int) + p2).toNat ls st m u] := by
  rw [zy_tsw]
  have h := z_sw_ch (J := fun t => J t ls st m u) (pc := pc) (x := x) [p0, p1, p2] 0 (J a ls st m u) (by show 0 + 3 < 2 ^ 31; decide)
  refine Eq.trans ?_ h
  refine congrArg (fun P : Prop => P ∧ _) (propext ⟨fun q e => q ?_, fun q e => q ?_⟩)
  · rcases e with e | e
    · exact .inl e
    · exact .inr (by have : ((0 : Nat) : Int) + ((3 : Nat) : Int) ≤ x.toInt := e; omega)
  · rcases e with e | e
    · exact .inl e
    · exact .inr (by show ((0 : Nat) : Int) + ((3 : Nat) : Int) ≤ x.toInt; omega)
theorem zt_0_15 {p0 p1 p2 p3 p4 p5 p6 p7 p8 p9 p10 p11 p12 p13 p14 : Int} : z_ex C Q B rt dp sc J pc (.tableswitch f 0 14 #[p0, p1, p2, p3, p4, p5, p6, p7, p8, p9, p10, p11, p12, p13, p14], l, a, b, z, w) K ls (zi x :: st) m u = z_ch x (J a ls st m u) 0 [J ((pc : Int) + p0).toNat ls st m u, J ((pc : Int) + p1).toNat ls st m u, J ((pc : Int) + p2).toNat ls st m u, J ((pc : Int) + p3).toNat ls st m u, J ((pc : Int) + p4).toNat ls st m u, J ((pc : Int) + p5).toNat ls st m u, J ((pc : Int) + p6).toNat ls st m u, J ((pc : Int) + p7).toNat ls st m u, J ((pc : Int) + p8).toNat ls st m u, J ((pc : Int) + p9).toNat ls st m u, J ((pc : Int) + p10).toNat ls st m u, J ((pc : Int) + p11).toNat ls st m u, J ((pc : Int) + p12).toNat ls st m u, J ((pc : Int) + p13).toNat ls st m u, J ((pc : Int) + p14).toNat ls st m u] := by
  rw [zy_tsw]
  have h := z_sw_ch (J := fun t => J t ls st m u) (pc := pc) (x := x) [p0, p1, p2, p3, p4, p5, p6, p7, p8, p9, p10, p11, p12, p13, p14] 0 (J a ls st m u) (by show 0 + 15 < 2 ^ 31; decide)
  refine Eq.trans ?_ h
  refine congrArg (fun P : Prop => P ∧ _) (propext ⟨fun q e => q ?_, fun q e => q ?_⟩)
  · rcases e with e | e
    · exact .inl e
    · exact .inr (by have : ((0 : Nat) : Int) + ((15 : Nat) : Int) ≤ x.toInt := e; omega)
  · rcases e with e | e
    · exact .inl e
    · exact .inr (by show ((0 : Nat) : Int) + ((15 : Nat) : Int) ≤ x.toInt; omega)
theorem zt_0_19 {p0 p1 p2 p3 p4 p5 p6 p7 p8 p9 p10 p11 p12 p13 p14 p15 p16 p17 p18 : Int} : z_ex C Q B rt dp sc J pc (.tableswitch f 0 18 #[p0, p1, p2, p3, p4, p5, p6, p7, p8, p9, p10, p11, p12, p13, p14, p15, p16, p17, p18], l, a, b, z, w) K ls (zi x :: st) m u = z_ch x (J a ls st m u) 0 [J ((pc : Int) + p0).toNat ls st m u, J ((pc : Int) + p1).toNat ls st m u, J ((pc : Int) + p2).toNat ls st m u, J ((pc : Int) + p3).toNat ls st m u, J ((pc : Int) + p4).toNat ls st m u, J ((pc : Int) + p5).toNat ls st m u, J ((pc : Int) + p6).toNat ls st m u, J ((pc : Int) + p7).toNat ls st m u, J ((pc : Int) + p8).toNat ls st m u, J ((pc : Int) + p9).toNat ls st m u, J ((pc : Int) + p10).toNat ls st m u, J ((pc : Int) + p11).toNat ls st m u, J ((pc : Int) + p12).toNat ls st m u, J ((pc : Int) + p13).toNat ls st m u, J ((pc : Int) + p14).toNat ls st m u, J ((pc : Int) + p15).toNat ls st m u, J ((pc : Int) + p16).toNat ls st m u, J ((pc : Int) + p17).toNat ls st m u, J ((pc : Int) + p18).toNat ls st m u] := by
  rw [zy_tsw]
  have h := z_sw_ch (J := fun t => J t ls st m u) (pc := pc) (x := x) [p0, p1, p2, p3, p4, p5, p6, p7, p8, p9, p10, p11, p12, p13, p14, p15, p16, p17, p18] 0 (J a ls st m u) (by show 0 + 19 < 2 ^ 31; decide)
  refine Eq.trans ?_ h
  refine congrArg (fun P : Prop => P ∧ _) (propext ⟨fun q e => q ?_, fun q e => q ?_⟩)
  · rcases e with e | e
    · exact .inl e
    · exact .inr (by have : ((0 : Nat) : Int) + ((19 : Nat) : Int) ≤ x.toInt := e; omega)
  · rcases e with e | e
    · exact .inl e
    · exact .inr (by show ((0 : Nat) : Int) + ((19 : Nat) : Int) ≤ x.toInt; omega)
theorem zt_9_10 {p0 p1 p2 p3 p4 p5 p6 p7 p8 p9 : Int} : z_ex C Q B rt dp sc J pc (.tableswitch f 9 18 #[p0, p1, p2, p3, p4, p5, p6, p7, p8, p9], l, a, b, z, w) K ls (zi x :: st) m u = z_ch x (J a ls st m u) 9 [J ((pc : Int) + p0).toNat ls st m u, J ((pc : Int) + p1).toNat ls st m u, J ((pc : Int) + p2).toNat ls st m u, J ((pc : Int) + p3).toNat ls st m u, J ((pc : Int) + p4).toNat ls st m u, J ((pc : Int) + p5).toNat ls st m u, J ((pc : Int) + p6).toNat ls st m u, J ((pc : Int) + p7).toNat ls st m u, J ((pc : Int) + p8).toNat ls st m u, J ((pc : Int) + p9).toNat ls st m u] := by
  rw [zy_tsw]
  have h := z_sw_ch (J := fun t => J t ls st m u) (pc := pc) (x := x) [p0, p1, p2, p3, p4, p5, p6, p7, p8, p9] 9 (J a ls st m u) (by show 9 + 10 < 2 ^ 31; decide)
  refine Eq.trans ?_ h
  refine congrArg (fun P : Prop => P ∧ _) (propext ⟨fun q e => q ?_, fun q e => q ?_⟩)
  · rcases e with e | e
    · exact .inl e
    · exact .inr (by have : ((9 : Nat) : Int) + ((10 : Nat) : Int) ≤ x.toInt := e; omega)
  · rcases e with e | e
    · exact .inl e
    · exact .inr (by show ((9 : Nat) : Int) + ((10 : Nat) : Int) ≤ x.toInt; omega)
end Tsw
-- 24 of a guarantor
def qGuar (S : zS) (g : Nat) (w : Int32) : Int32 := z_ch w (-1) 0 [z_I S 1 g 0, z_I S 1 g 1, z_I S 1 g 2, cFree S g]
set_option maxRecDepth 100000 in
set_option maxHeartbeats 4000000 in
theorem zs_100 (hM : cMok m) : z_call (d + 2) 100 [zr (some (5, 0, 0)), zi v, zi w] m Q = if 0 ≤ v ∧ v < z_I (z_g m 2) 0 0 3 then Q (some (zi (qGuar (z_g m 2) v.toNatClampNeg w))) m else Q (some (zi (-1))) m := by
  by_cases c1 : 0 ≤ v ∧ v < z_I (z_g m 2) 0 0 3
  · have v1 := z_hasv hM.1.1 c1
    simp only [↓zen_100, ↓zu_100_0, ↓zu_100_13, ↓zu_100_56, ↓zu_100_61, ↓zu_100_66, ↓zu_100_71, ↓zu_100_76, ↓zx_nil, ↓zx_cons, ↓zp_li, ↓zp_ll, ↓zp_lr, ↓zq_li0, ↓zq_li1, ↓zq_ll0, ↓zq_ll1, ↓zq_lr0, ↓zq_lr1, ↓zk_0, ↓zk_1n, ↓zk_1i, ↓zk_1r, ↓zk_1l, ↓zk_2, zp_okt, ↓zp_okl, zp_sh0, zp_sh1, zp_psn, zp_pss, ↓zp_ri1, ↓zp_ri20, ↓zp_ri21, ↓zp_rl, ↓zp_ra, ↓zp_rv, ↓zp_br, ↓reduceIte, Nat.reduceAdd, Nat.zero_add, Nat.add_zero, Nat.le_refl, Nat.zero_le, ↓zx_aload_0, ↓zyg_5_0, ↓zx_iload_1, ↓zyc_10, ↓zy_if_ne, ↓zx_iconst, ↓zx_iret, ↓zyg_0_6, ↓zya_7, ↓zya_8, ↓zya_9, ↓zya_10, ↓zya_17, ↓zya_18, ↓zy_astore_3, ↓zx_iload_2, ↓zt_0_4, ↓zt_0_3, ↓zt_0_15, ↓zt_0_19, ↓zt_9_10, Int.cast_ofNat_Int, Int.reduceAdd, Int.reduceToNat, ↓zx_aload_3, ↓zyg_1_0, ↓zyg_1_1, ↓zyg_1_2, ↓zyc_47, ↓zs_10, z_i10, z_10, z_00, and_self, not_true_eq_false, not_false_eq_true, true_and, and_true, false_and, and_false, true_or, false_or, or_false, or_true, or_self, if_true, if_false, ite_self, ↓zs_72, c1, eq_true v1, ↓zt_0_4, Int.cast_ofNat_Int, Int.reduceAdd, Int.reduceToNat, ↓zs_47]
    exact z_ch_f (fun t => Q (some (zi t)) m) w _ [_, _, _, _] 0
  · simp only [↓zen_100, ↓zu_100_0, ↓zu_100_13, ↓zu_100_56, ↓zu_100_61, ↓zu_100_66, ↓zu_100_71, ↓zu_100_76, ↓zx_nil, ↓zx_cons, ↓zp_li, ↓zp_ll, ↓zp_lr, ↓zq_li0, ↓zq_li1, ↓zq_ll0, ↓zq_ll1, ↓zq_lr0, ↓zq_lr1, ↓zk_0, ↓zk_1n, ↓zk_1i, ↓zk_1r, ↓zk_1l, ↓zk_2, zp_okt, ↓zp_okl, zp_sh0, zp_sh1, zp_psn, zp_pss, ↓zp_ri1, ↓zp_ri20, ↓zp_ri21, ↓zp_rl, ↓zp_ra, ↓zp_rv, ↓zp_br, ↓reduceIte, Nat.reduceAdd, Nat.zero_add, Nat.add_zero, Nat.le_refl, Nat.zero_le, ↓zx_aload_0, ↓zyg_5_0, ↓zx_iload_1, ↓zyc_10, ↓zy_if_ne, ↓zx_iconst, ↓zx_iret, ↓zyg_0_6, ↓zya_7, ↓zya_8, ↓zya_9, ↓zya_10, ↓zya_17, ↓zya_18, ↓zy_astore_3, ↓zx_iload_2, ↓zt_0_4, ↓zt_0_3, ↓zt_0_15, ↓zt_0_19, ↓zt_9_10, Int.cast_ofNat_Int, Int.reduceAdd, Int.reduceToNat, ↓zx_aload_3, ↓zyg_1_0, ↓zyg_1_1, ↓zyg_1_2, ↓zyc_47, ↓zs_10, z_i10, z_10, z_00, and_self, not_true_eq_false, not_false_eq_true, true_and, and_true, false_and, and_false, true_or, false_or, or_false, or_true, or_self, if_true, if_false, ite_self, ↓zs_72, c1]
end Bs6
