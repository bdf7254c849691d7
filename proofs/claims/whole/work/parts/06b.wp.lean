/-! ===== FRAMES AND CALLS: the least predicate that is closed under a block's step; calls by depth ===== -/
section Wp
def z_stp (j : Nat) (sc : zX) (dp : Nat) (C : zC) (Q : zQ) (B : Nat) (P : zJ) (pc : Nat) (ls : zL) (st : List zV) (m : zM) (u : Nat) : Prop := z_blk C Q B (z_mR j) dp sc P (z_code j pc) pc ls st m u
def z_wp (j : Nat) (sc : zX) (dp : Nat) (C : zC) (Q : zQ) (B : Nat) (pc : Nat) (ls : zL) (st : List zV) (m : zM) (u : Nat) : Prop :=
  ∀ P : zJ, (∀ pc ls st m u, z_stp j sc dp C Q B P pc ls st m u → P pc ls st m u) → P pc ls st m u
def z_ent : List zV → zL
  | [] => []
  | .inr (.inl x) :: l => some (zl x) :: none :: z_ent l
  | .inl x :: l => some (zi x) :: z_ent l
  | .inr (.inr x) :: l => some (zr x) :: z_ent l
def z_pad (n : Nat) (l : zL) : zL := l ++ List.replicate (n - l.length) none
def z_call : Nat → zC
  | 0 => fun _ _ _ _ => False
  | d + 1 => fun j as m Q => z_ok (Nat.ble (z_ent as).length (z_mL j)) (z_wp j none d (z_call d) Q (z_mB j) 0 (z_pad (z_mL j) (z_ent as)) [] m 0)
def z_Cm (C : zC) : Prop := ∀ (j : Nat) (as : List zV) (m : zM) (Q Q' : zQ), (∀ r m, Q r m → Q' r m) → C j as m Q → C j as m Q'
theorem z_li_m {a : Option zV} {K K' : Int32 → Prop} (h : ∀ v, K v → K' v) : z_li a K → z_li a K' := by unfold z_li; split <;> first | exact h _ | exact id
theorem z_ll_m {a : Option zV} {K K' : Int64 → Prop} (h : ∀ v, K v → K' v) : z_ll a K → z_ll a K' := by unfold z_ll; split <;> first | exact h _ | exact id
theorem z_lr_m {a : Option zV} {K K' : Option (Nat × Nat × Nat) → Prop} (h : ∀ v, K v → K' v) : z_lr a K → z_lr a K' := by unfold z_lr; split <;> first | exact h _ | exact id
theorem z_p1_m {st : List zV} {K K' : Int32 → List zV → Prop} (h : ∀ v s, K v s → K' v s) : z_p1 st K → z_p1 st K' := by unfold z_p1; split <;> first | exact h _ _ | exact id
theorem z_p2_m {st : List zV} {K K' : Int32 → Int32 → List zV → Prop} (h : ∀ v w s, K v w s → K' v w s) : z_p2 st K → z_p2 st K' := by unfold z_p2; split <;> first | exact h _ _ _ | exact id
theorem z_q1_m {st : List zV} {K K' : Int64 → List zV → Prop} (h : ∀ v s, K v s → K' v s) : z_q1 st K → z_q1 st K' := by unfold z_q1; split <;> first | exact h _ _ | exact id
theorem z_q2_m {st : List zV} {K K' : Int64 → Int64 → List zV → Prop} (h : ∀ v w s, K v w s → K' v w s) : z_q2 st K → z_q2 st K' := by unfold z_q2; split <;> first | exact h _ _ _ | exact id
theorem z_r1_m {st : List zV} {K K' : Option (Nat × Nat × Nat) → List zV → Prop} (h : ∀ v s, K v s → K' v s) : z_r1 st K → z_r1 st K' := by unfold z_r1; split <;> first | exact h _ _ | exact id
theorem z_h1_m {st : List zV} {K K' : (Nat × Nat × Nat) → List zV → Prop} (h : ∀ v s, K v s → K' v s) : z_h1 st K → z_h1 st K' := by unfold z_h1; split <;> first | exact h _ _ | exact id
theorem z_a1_m {st : List zV} {K K' : Int32 → (Nat × Nat × Nat) → List zV → Prop} (h : ∀ i v s, K i v s → K' i v s) : z_a1 st K → z_a1 st K' := by unfold z_a1; split <;> first | exact h _ _ _ | exact id
theorem z_c1_m {v : zV} {K K' : Prop} (h : K → K') : z_c1 v K → z_c1 v K' := by unfold z_c1; split <;> first | exact h | exact id
theorem z_ok_m {b : Bool} {K K' : Prop} (h : K → K') : z_ok b K → z_ok b K' := by unfold z_ok; split <;> first | exact h | exact id
theorem z_on_m {b : Option Nat} {K K' : Nat → Prop} (h : ∀ n, K n → K' n) : z_on b K → z_on b K' := by unfold z_on; split <;> first | exact h _ | exact id
theorem z_br_m {c A B A' B' : Prop} (h : A → A') (g : B → B') : z_br c A B → z_br c A' B' := fun q => ⟨fun x => h (q.1 x), fun x => g (q.2 x)⟩
theorem z_sw_m {J J' : Nat → Prop} {pc : Nat} {x : Int} (h : ∀ t, J t → J' t) : ∀ (os : List Int) (lo : Int), z_sw J pc x lo os → z_sw J' pc x lo os
  | [], _, _ => trivial
  | _ :: os, lo, q => ⟨fun e => h _ (q.1 e), z_sw_m h os (lo + 1) q.2⟩
theorem z_pf_m {m : zM} {h : Nat × Nat × Nat} {f : Nat} {v : zV} {K K' : zM → Prop} (g : ∀ m, K m → K' m) : z_pf m h f v K → z_pf m h f v K' := by
  unfold z_pf
  split <;> first | exact g _ | (split <;> first | exact g _ | exact id) | exact id
theorem z_ac_m {m : zM} {as : List zV} {K K' : zM → Prop} (g : ∀ m, K m → K' m) : z_ac m as K → z_ac m as K' := by
  unfold z_ac
  split
  · exact fun q => ⟨q.1, q.2.1, q.2.2.1, q.2.2.2.1, q.2.2.2.2.1, q.2.2.2.2.2.1, g _ q.2.2.2.2.2.2⟩
  · exact id
theorem z_rc_m {as : List zV} {k : Nat} {K K' : Prop} (h : K → K') : z_rc as k K → z_rc as k K' := by unfold z_rc; split <;> first | exact z_ok_m h | exact id
theorem z_po_m {n : Nat} {st : List zV} {K K' : List zV → List zV → Prop} (h : ∀ a s, K a s → K' a s) : z_po n st K → z_po n st K' := by unfold z_po; split <;> first | exact h _ _ | exact id
theorem z_ri_m {st : List zV} {rt : Nat} {Q Q' : Option zV → Prop} (h : ∀ r, Q r → Q' r) : z_ri st rt Q → z_ri st rt Q' := by unfold z_ri; split <;> first | exact h _ | exact fun q => ⟨q.1, h _ q.2⟩ | exact id
theorem z_rl_m {st : List zV} {rt : Nat} {Q Q' : Option zV → Prop} (h : ∀ r, Q r → Q' r) : z_rl st rt Q → z_rl st rt Q' := by unfold z_rl; split <;> first | exact h _ | exact id
theorem z_ra_m {st : List zV} {rt : Nat} {Q Q' : Option zV → Prop} (h : ∀ r, Q r → Q' r) : z_ra st rt Q → z_ra st rt Q' := by unfold z_ra; split <;> first | exact h _ | exact id
theorem z_rv_m {st : List zV} {rt : Nat} {Q Q' : Prop} (h : Q → Q') : z_rv st rt Q → z_rv st rt Q' := by unfold z_rv; split <;> first | exact h | exact id
set_option maxHeartbeats 4000000 in
theorem z_ex_m {C : zC} {Q Q' : zQ} {B rt dp : Nat} {sc : zX} {J J' : zJ} {pc : Nat} {x : zN} {K K' : zK} {ls : zL} {st : List zV} {m : zM} {u : Nat} (hC : z_Cm C) (hQ : ∀ r m, Q r m → Q' r m) (hJ : ∀ pc ls st m u, J pc ls st m u → J' pc ls st m u) (hK : ∀ ls st m u, K ls st m u → K' ls st m u) :
    z_ex C Q B rt dp sc J pc x K ls st m u → z_ex C Q' B rt dp sc J' pc x K' ls st m u := by
  obtain ⟨i, n, a, b, z, w⟩ := x
  intro h
  cases i
  case if_icmp c off => cases c <;> first | exact z_p2_m (fun _ _ _ => z_br_m (hJ _ _ _ _ _) (hK _ _ _ _)) h | exact z_p2_m (fun _ _ _ => z_br_m (hK _ _ _ _) (hJ _ _ _ _ _)) h
  case ifCond c off => cases c <;> first | exact z_p1_m (fun _ _ => z_br_m (hJ _ _ _ _ _) (hK _ _ _ _)) h | exact z_p1_m (fun _ _ => z_br_m (hK _ _ _ _) (hJ _ _ _ _ _)) h
  case ifnull off => exact z_r1_m (fun _ _ => z_br_m (hJ _ _ _ _ _) (hK _ _ _ _)) h
  case ifnonnull off => exact z_r1_m (fun _ _ => z_br_m (hK _ _ _ _) (hJ _ _ _ _ _)) h
  case tableswitch d lo hi offs => exact z_p1_m (fun _ _ q => ⟨fun e => hJ _ _ _ _ _ (q.1 e), z_sw_m (fun t => hJ _ _ _ _ _) _ _ q.2⟩) h
  case getfield k => exact z_h1_m (fun _ _ => z_ok_m (hK _ _ _ _)) h
  case putfield k =>
    match st, h with
    | v :: st, h => exact z_h1_m (fun _ _ => z_ok_m (z_pf_m fun _ => hK _ _ _ _)) h
  case iaload => exact z_a1_m (fun _ _ _ => z_on_m fun _ q => ⟨q.1, hK _ _ _ _ q.2⟩) h
  case laload => exact z_a1_m (fun _ _ _ => z_on_m fun _ q => ⟨q.1, hK _ _ _ _ q.2⟩) h
  case baload => exact z_a1_m (fun _ _ _ => z_ok_m fun q => ⟨q.1, hK _ _ _ _ q.2⟩) h
  case iastore => exact z_p1_m (fun _ _ => z_a1_m (fun _ _ _ => z_on_m fun _ q => ⟨q.1, hK _ _ _ _ q.2⟩)) h
  case lastore => exact z_q1_m (fun _ _ => z_a1_m (fun _ _ _ => z_on_m fun _ q => ⟨q.1, hK _ _ _ _ q.2⟩)) h
  case bastore => exact z_p1_m (fun _ _ => z_a1_m (fun _ _ _ => z_ok_m fun q => ⟨q.1, q.2.1, hK _ _ _ _ q.2.2⟩)) h
  case aaload =>
    refine z_a1_m (fun i g s => ?_) h
    rcases z_rk g.1 with _ | ⟨k, _ | _⟩
    · exact id
    · exact fun q => ⟨q.1, hK _ _ _ _ q.2⟩
    · exact fun q => ⟨q.1, hK _ _ _ _ q.2⟩
  case aastore =>
    refine z_h1_m (fun i g => z_ok_m (z_a1_m (fun i g s => ?_))) h
    rcases z_rk g.1 with _ | ⟨k, _ | _⟩
    · exact id
    · exact id
    · exact fun q => ⟨q.1, hK _ _ _ _ q.2⟩
  case arraylength => exact z_h1_m (fun _ _ => z_ok_m (z_on_m fun _ => hK _ _ _ _)) h
  case invokevirtual k => exact z_po_m (fun _ _ => z_ok_m (z_rc_m (z_ok_m (hC _ _ _ _ _ fun _ _ => hK _ _ _ _)))) h
  case invokestatic k =>
    revert h
    unfold z_ex
    dsimp only
    generalize z_sp a = q
    match q with
    | 0 => exact z_po_m (fun _ _ => z_ok_m (z_ok_m (hC _ _ _ _ _ fun _ _ => hK _ _ _ _)))
    | 1 => exact z_po_m (fun _ _ => z_ok_m (z_ac_m fun _ => hK _ _ _ _))
    | 2 => exact z_p2_m (fun _ _ _ => z_ok_m (hK _ _ _ _))
    | n + 3 => exact z_p2_m (fun _ _ _ => z_ok_m (hK _ _ _ _))
  case new k => exact z_ok_m (hK _ _ _ _) h
  case ireturn => exact z_ri_m (Q := fun r => Q r m) (Q' := fun r => Q' r m) (fun r => hQ r m) h
  case lreturn => exact z_rl_m (Q := fun r => Q r m) (Q' := fun r => Q' r m) (fun r => hQ r m) h
  case areturn => exact z_ra_m (Q := fun r => Q r m) (Q' := fun r => Q' r m) (fun r => hQ r m) h
  case return_ => exact z_rv_m (hQ _ _) h
  case dup =>
    match st, h with
    | v :: st, h => exact z_c1_m (hK _ _ _ _) h
  case dup2 =>
    match st, h with
    | v :: w :: st, h => exact z_c1_m (z_c1_m (hK _ _ _ _)) h
  case pop =>
    match st, h with
    | v :: st, h => exact z_c1_m (hK _ _ _ _) h
  case goto off => exact hJ _ _ _ _ _ h
  all_goals first
    | exact hK _ _ _ _ h
    | exact z_p2_m (fun _ _ _ => hK _ _ _ _) h
    | exact z_p1_m (fun _ _ => hK _ _ _ _) h
    | exact z_li_m (fun _ => hK _ _ _ _) h
    | exact z_ll_m (fun _ => hK _ _ _ _) h
    | exact z_lr_m (fun _ => hK _ _ _ _) h
    | exact z_q2_m (fun _ _ _ => hK _ _ _ _) h
    | exact z_q1_m (fun _ _ => hK _ _ _ _) h
    | exact z_r1_m (fun _ _ => hK _ _ _ _) h
    | exact z_p2_m (fun _ _ _ q => ⟨q.1, hK _ _ _ _ q.2⟩) h
    | exact False.elim h
theorem z_blk_m {C : zC} {Q Q' : zQ} {B rt dp : Nat} {sc : zX} {J J' : zJ} (hC : z_Cm C) (hQ : ∀ r m, Q r m → Q' r m) (hJ : ∀ pc ls st m u, J pc ls st m u → J' pc ls st m u) :
    ∀ (is : List zN) (pc : Nat) (ls : zL) (st : List zV) (m : zM) (u : Nat), z_blk C Q B rt dp sc J is pc ls st m u → z_blk C Q' B rt dp sc J' is pc ls st m u
  | [], _, _, _, _, _, h => hJ _ _ _ _ _ h
  | _ :: is, _, _, _, _, _, h => z_ex_m hC hQ hJ (fun _ _ _ _ => z_blk_m hC hQ hJ is _ _ _ _ _) h
theorem z_wp_in {j : Nat} {sc : zX} {dp : Nat} {C : zC} {Q : zQ} {B : Nat} {pc : Nat} {ls : zL} {st : List zV} {m : zM} {u : Nat} (hC : z_Cm C) (h : z_stp j sc dp C Q B (z_wp j sc dp C Q B) pc ls st m u) : z_wp j sc dp C Q B pc ls st m u :=
  fun P hP => hP _ _ _ _ _ (z_blk_m hC (fun _ _ q => q) (fun _ _ _ _ _ q => q P hP) _ _ _ _ _ _ h)
theorem z_wp_m {j : Nat} {sc : zX} {dp : Nat} {C : zC} {Q Q' : zQ} {B : Nat} {pc : Nat} {ls : zL} {st : List zV} {m : zM} {u : Nat} (hC : z_Cm C) (hQ : ∀ r m, Q r m → Q' r m) (h : z_wp j sc dp C Q B pc ls st m u) : z_wp j sc dp C Q' B pc ls st m u :=
  fun P hP => h P fun _ _ _ _ _ q => hP _ _ _ _ _ (z_blk_m hC hQ (fun _ _ _ _ _ q => q) _ _ _ _ _ _ q)
theorem z_call_m : ∀ d : Nat, z_Cm (z_call d)
  | 0 => fun _ _ _ _ _ _ h => h
  | d + 1 => fun _ _ _ _ _ hQ h => z_ok_m (z_wp_m (z_call_m d) hQ) h
/-- the frame of method j at depth d -/
def zW (j d : Nat) (Q : zQ) (pc : Nat) (ls : zL) (st : List zV) (m : zM) (u : Nat) : Prop := z_wp j none d (z_call d) Q (z_mB j) pc ls st m u
theorem zW_in {j d : Nat} {Q : zQ} {pc : Nat} {ls : zL} {st : List zV} {m : zM} {u : Nat} (h : z_blk (z_call d) Q (z_mB j) (z_mR j) d none (zW j d Q) (z_code j pc) pc ls st m u) : zW j d Q pc ls st m u := z_wp_in (z_call_m d) h
theorem zC_in {j d : Nat} {as : List zV} {m : zM} {Q : zQ} (h : z_ok (Nat.ble (z_ent as).length (z_mL j)) (zW j d Q 0 (z_pad (z_mL j) (z_ent as)) [] m 0)) : z_call (d + 1) j as m Q := h
theorem zC_m {j d : Nat} {as : List zV} {m : zM} {Q Q' : zQ} (hQ : ∀ r m, Q r m → Q' r m) (h : z_call d j as m Q) : z_call d j as m Q' := z_call_m d _ _ _ _ _ hQ h
end Wp
