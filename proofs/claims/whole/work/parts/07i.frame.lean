/-! ===== SOUNDNESS of a block, of a frame, of a call ===== -/
section Snd4
variable {p : Program} {l : Launch} {e : Env} {R : Room} {s : State} {mi : MethodId} {args : Array Value} {below : List Frame} {meth : Method} {c : Code} {QQ : State → Prop} {D : va_G} {tc : Nat → ClassId} {A : Nat → Prop} {c0 s0 nL nb0 B dp own rt : Nat} {pl0 : zP} {sc : zX} {cc : ByteArray} {C : zC} {Q : zQ}
theorem z_blk_snd (cx : z_Cx p R s mi args c own nL cc D tc A B dp c0 s0) (hZ : z_Zs s) (hsc : ∀ q, sc = some q → va_X (pl0 34 1 0) q.1 q.2 s s.heap ∧ pl0 34 1 0 < s.heap.size ∧ ¬ A (pl0 34 1 0)) (hcl : z_Hc l D tc dp C) (hnw : z_Hn p l e R s mi args below meth c QQ D tc A nb0 pl0 nL B dp c0 s0 own cc) (hrt : z_Hr p l e R s mi args below meth c QQ D tc A nb0 pl0 sc B c0 s0 rt cc Q)
    {J : zJ} (hJ : ∀ pc ls st m u, J pc ls st m u → z_Fr p l e R s mi args below meth c QQ D tc A nb0 pl0 sc nL B c0 s0 pc ls st m u) (is : List zN) : ∀ (pc : Nat) (ls : zL) (st : List zV) (m : zM) (u : Nat), z_chk own nL cc pc is = true → z_blk C Q B rt dp sc J is pc ls st m u → z_Fr p l e R s mi args below meth c QQ D tc A nb0 pl0 sc nL B c0 s0 pc ls st m u := by
  induction is with
  | nil => exact fun pc ls st m u _ h => hJ _ _ _ _ _ h
  | cons x is ih =>
    intro pc ls st m u hc h
    simp only [z_chk, Bool.and_eq_true, decide_eq_true_eq] at hc
    obtain ⟨h1, h2, h3⟩ := hc
    exact z_ex_snd cx hZ hsc hcl hnw hrt h1 h2 hJ (fun ls st m u q => ih _ ls st m u h3 q) h
theorem z_wp_snd {j : Nat} (cx : z_Cx p R s mi args c own nL cc D tc A B dp c0 s0) (hZ : z_Zs s) (hsc : ∀ q, sc = some q → va_X (pl0 34 1 0) q.1 q.2 s s.heap ∧ pl0 34 1 0 < s.heap.size ∧ ¬ A (pl0 34 1 0)) (hcl : z_Hc l D tc dp C) (hnw : z_Hn p l e R s mi args below meth c QQ D tc A nb0 pl0 nL B dp c0 s0 own cc) (hrt : z_Hr p l e R s mi args below meth c QQ D tc A nb0 pl0 sc B c0 s0 (z_mR j) cc Q)
    (hj : ∀ pc, z_chk own nL cc pc (z_code j pc) = true) {pc : Nat} {ls : zL} {st : List zV} {m : zM} {u : Nat} (h : z_wp j sc dp C Q B pc ls st m u) : z_Fr p l e R s mi args below meth c QQ D tc A nb0 pl0 sc nL B c0 s0 pc ls st m u :=
  h (fun pc ls st m u => z_Fr p l e R s mi args below meth c QQ D tc A nb0 pl0 sc nL B c0 s0 pc ls st m u) (fun pc ls st m u q => z_blk_snd cx hZ hsc hcl hnw hrt (fun _ _ _ _ _ x => x) _ pc ls st m u (hj pc) q)
theorem z_rt_ok : ∀ j, j < 229 → (z_mR j = 0 → z_re j = none) ∧ (z_mR j = 1 → z_re j = some .int) ∧ (z_mR j = 2 → z_re j = some .boolean) ∧ (z_mR j = 3 → z_re j = some .long) ∧ (z_mR j = 4 → z_re j = some (.object "BondStores$Book")) := by decide +kernel
theorem z_hr_met {j : Nat} {L : List Nat} {m0 : zM} (h1 : j < 229) (hx : p.tables.exec = Jvm.exec) (hb : c.code = cc) (hr : meth.sig.returnType = z_re j) (hlk : meth.locks = false) :
    z_Hr p l e R s mi args below meth c (MQ below (z_Qc D tc L pl0 m0 s.heap.size (z_mR j) Q) args s (123 * B) (1154 * B) (z_Aw L s.heap.size)) D tc (z_Aw L s.heap.size) (z_nb m0) pl0 none B 0 0 (z_mR j) cc Q := by
  intro r m u H locs pl la pc hq hu hH hrk hvr hdec
  refine W.widen (k := 123 * B) (n := 1154 * B) (by omega) (by omega) ?_
  obtain ⟨⟨L', F', hP, hD, hR⟩, hS, hX⟩ := hH
  have hQ : ∀ (t : State), t.heap = H → z_Qc D tc L pl0 m0 s.heap.size (z_mR j) Q args s (.returned (r.map (z_cv pl))) t := fun t ht => ⟨⟨r, m, L', F', pl, rfl, hq, hrk, hvr, by rw [ht]; exact hP, hD, hR, hX⟩, hS.F ht⟩
  obtain ⟨k0, k1, k2, k3, k4⟩ := z_rt_ok j h1
  match r, hQ, hrk, hdec with
  | none, hQ, hrk, hdec => exact W.vret hx hb (hr.trans (k0 hrk)) (fun t ht _ => hQ t ht) hS.2.2 hdec hlk
  | some (.inl v), hQ, hrk, hdec =>
    rcases hrk with q | ⟨q, q2⟩
    · exact W.iret hx hb (hr.trans (k1 q)) (fun t ht _ => hQ t ht) hS.2.2 hdec hlk
    · exact W.zret hx hb (hr.trans (k2 q)) (by rcases q2 with rfl | rfl <;> decide) (fun t ht _ => hQ t ht) hS.2.2 hdec hlk
  | some (.inr (.inl v)), hQ, hrk, hdec => exact W.lret hx hb (hr.trans (k3 hrk)) (fun t ht _ => hQ t ht) hS.2.2 hdec hlk
  | some (.inr (.inr none)), hQ, hrk, hdec => exact absurd rfl hrk.2
  | some (.inr (.inr (some g))), hQ, hrk, hdec => exact W.aret hx hb (hr.trans (k4 hrk.1)) (Or.inl ⟨_, rfl⟩) (Or.inr ⟨_, rfl⟩) (fun t ht _ => hQ t ht) hS.2.2 hdec hlk
theorem z_ent_len {pl : zP} : ∀ as : List zV, (lg_sl (as.map (z_cv pl))).length = (z_ent as).length
  | [] => rfl
  | .inl x :: l => by
    have := z_ent_len (pl := pl) l
    simp [lg_sl, z_cv, Value.category, z_ent] at this ⊢
    omega
  | .inr (.inl x) :: l => by
    have := z_ent_len (pl := pl) l
    simp [lg_sl, z_cv, Value.category, z_ent] at this ⊢
    omega
  | .inr (.inr none) :: l => by
    have := z_ent_len (pl := pl) l
    simp [lg_sl, z_cv, Value.category, z_ent] at this ⊢
    omega
  | .inr (.inr (some x)) :: l => by
    have := z_ent_len (pl := pl) l
    simp [lg_sl, z_cv, Value.category, z_ent] at this ⊢
    omega
theorem z_call_snd (l : Launch) (D : va_G) (tc : Nat → ClassId) (d : Nat) : z_Hc l D tc d (z_call d) := by
  induction d with
  | zero => intro j as m QK L F pl sz h; exact h.elim
  | succ d ih =>
    intro j as m QK L F pl sz h h0 h1 hsp hvs hR
    obtain ⟨hlen, h⟩ := z_ok_e h
    obtain ⟨hc1, hc2, hc3, hc4, hc5, hc6, hc7⟩ := z_mth h0 h1
    refine Met.ofW (cc := z_by j) (maxL := z_mL j) (ret := z_re j) (hc7 hsp) rfl ?_
    intro p e s m' args below meth c s₁ B hml hv
    obtain ⟨rfl, hsz, hP, hD, hK, hZ⟩ := hv
    have hts := atoms_spec (ws := z_wd j) B.pre
    have hown : s.vm.findClass (z_nm j).cls = some m'.cls := findClass_of_methodNamed B.named
    subst hsz
    rw [lg_entry_eq]
    have hlen' : (lg_sl (as.map (z_cv pl))).length ≤ z_mL j := by rw [z_ent_len]; exact Nat.le_of_ble_eq_true hlen
    have hl := lv_entry (as.map (z_cv pl)) hlen'
    have cx : z_Cx p (headSpec (z_wd j) (z_rm (d + 1) (z_mB j))).room s m' (as.map (z_cv pl)).toArray c (z_mK j) (z_mL j) (z_by j) D tc (z_Aw L s.heap.size) (z_mB j) d 0 0 :=
      ⟨B.exec, B.bytes, hml, by rw [← hc1]; exact hown, fun w hw => hts w (List.mem_cons_of_mem _ hw), hK, fun q h => Or.inr h, Nat.le_refl _, Nat.le_refl _, by rw [Nat.zero_add]; exact Nat.le_refl _, by rw [Nat.zero_add]; exact Nat.le_refl _⟩
    have hF := z_wp_snd (e := e) (sc := none) (j := j) (below := below) (nb0 := z_nb m) (pl0 := pl) cx hZ (fun q hq => nomatch hq) ih (z_hn cx hZ) (z_hr_met (m0 := m) (L := L) h1 B.exec B.bytes B.returns B.notSynchronized) (zh_all h1) h
    refine hF (Nat.zero_le _) s.heap [] pl _ ⟨⟨L, F, hP, ⟨hD.1, fun k q hk => Or.inl ?_⟩, hR⟩, va_S.rf, ⟨Nat.le_refl _, fun _ _ _ _ => rfl, rfl⟩⟩ ⟨hl.1, hl.2.1, ?_, fun n v hn => ?_⟩ (fun n v hn => ?_) (fun v q => absurd q List.not_mem_nil)
    · obtain ⟨a, ha, rfl⟩ := List.mem_map.mp (List.mem_of_getElem? hk)
      exact ha
    · have := Nat.le_of_ble_eq_true hlen
      unfold z_pad
      rw [List.length_append, List.length_replicate]
      omega
    · have := z_ent_ld (pl := pl) as 0 n v (z_ld_app _ _ _ _ hn)
      rw [Nat.zero_add] at this
      exact hl.2.2 _ this
    · exact z_ent_vl as hvs n v (z_ld_app _ _ _ _ hn)
end Snd4
