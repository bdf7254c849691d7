/-! ===== one instruction ===== -/
section Snd2
variable {p : Program} {l : Launch} {e : Env} {R : Room} {s : State} {mi : MethodId} {args : Array Value} {below : List Frame} {meth : Method} {c : Code} {QQ : State → Prop} {D : va_G} {tc : Nat → ClassId} {A : Nat → Prop} {c0 s0 nL nb0 B dp own rt : Nat} {pl0 : zP} {sc : zX} {cc : ByteArray} {C : zC} {Q : zQ}
theorem z_TT_cn : ∀ k, k < 7 → ∀ b, b < z_nf k → (z_TT k b).1 = z_cn k := by decide +kernel
set_option maxHeartbeats 8000000 in
set_option maxRecDepth 100000 in
theorem z_ex_snd (cx : z_Cx p R s mi args c own nL cc D tc A B dp c0 s0) (hZ : z_Zs s) (hsc : ∀ q, sc = some q → va_X (pl0 34 1 0) q.1 q.2 s s.heap ∧ pl0 34 1 0 < s.heap.size ∧ ¬ A (pl0 34 1 0)) (hcl : z_Hc l D tc dp C) (hnw : z_Hn p l e R s mi args below meth c QQ D tc A nb0 pl0 nL B dp c0 s0 own cc) (hrt : z_Hr p l e R s mi args below meth c QQ D tc A nb0 pl0 sc B c0 s0 rt cc Q)
    {J : zJ} {K : zK} {x : zN} {pc : Nat} {ls : zL} {st : List zV} {m : zM} {u : Nat} (hdec : decode cc pc = .ok (x.1, z_l1 x)) (hchk : z_chk1 own nL pc cc x = true)
    (hJ : ∀ pc ls st m u, J pc ls st m u → z_Fr p l e R s mi args below meth c QQ D tc A nb0 pl0 sc nL B c0 s0 pc ls st m u) (hK : ∀ ls st m u, K ls st m u → z_Fr p l e R s mi args below meth c QQ D tc A nb0 pl0 sc nL B c0 s0 (pc + x.2.1) ls st m u)
    (h : z_ex C Q B rt dp sc J pc x K ls st m u) : z_Fr p l e R s mi args below meth c QQ D tc A nb0 pl0 sc nL B c0 s0 pc ls st m u := by
  obtain ⟨hx, hb, hml, hown, hts, hVK, hA, hfr, hlo, hcells, hslots⟩ := cx
  obtain ⟨i, len, a, b, z, w⟩ := x
  intro hu H locs pl la hH hl hvl hvs
  cases i
  case iconst n =>
    simp only [z_chk1, Bool.and_eq_true, decide_eq_true_eq] at hchk
    obtain ⟨h1, h2⟩ := hchk
    obtain rfl := z_b1 h1
    exact lv_iconst hx hb hdec h2 (hK _ _ _ _ h hu H locs pl la hH hl hvl (z_vs.cons trivial hvs))
  case bipush n =>
    simp only [z_chk1, Bool.and_eq_true, decide_eq_true_eq] at hchk
    obtain ⟨h1, h2⟩ := hchk
    obtain rfl := z_b1 h1
    exact lv_bipush hx hb hdec h2 (hK _ _ _ _ h hu H locs pl la hH hl hvl (z_vs.cons trivial hvs))
  case sipush n =>
    simp only [z_chk1, Bool.and_eq_true, decide_eq_true_eq] at hchk
    obtain ⟨h1, h2⟩ := hchk
    obtain rfl := z_b1 h1
    exact lv_sipush hx hb hdec h2 (hK _ _ _ _ h hu H locs pl la hH hl hvl (z_vs.cons trivial hvs))
  case ldc n =>
    simp only [z_chk1, Bool.and_eq_true, decide_eq_true_eq] at hchk
    obtain ⟨h1, h2⟩ := hchk
    obtain rfl := z_b1 h1
    exact lv_ldc hx hb hown (hts _ (z_CI_ok h2)) hdec (hK _ _ _ _ h hu H locs pl la hH hl hvl (z_vs.cons trivial hvs))
  case ldc_w n =>
    simp only [z_chk1, Bool.and_eq_true, decide_eq_true_eq] at hchk
    obtain ⟨h1, h2⟩ := hchk
    obtain rfl := z_b1 h1
    exact lv_ldcw hx hb hown (hts _ (z_CI_ok h2)) hdec (hK _ _ _ _ h hu H locs pl la hH hl hvl (z_vs.cons trivial hvs))
  case lconst n =>
    simp only [z_chk1, Bool.and_eq_true, decide_eq_true_eq] at hchk
    obtain ⟨h1, h2⟩ := hchk
    obtain rfl := z_b1 h1
    exact lv_lconst hx hb hdec h2 (hK _ _ _ _ h hu H locs pl la hH hl hvl (z_vs.cons trivial hvs))
  case ldc2_w n =>
    simp only [z_chk1, Bool.and_eq_true, decide_eq_true_eq] at hchk
    obtain ⟨h1, h2⟩ := hchk
    obtain rfl := z_b1 h1
    exact lv_ldc2 hx hb hown (hts _ (z_CJ_ok h2)) hdec (hK _ _ _ _ h hu H locs pl la hH hl hvl (z_vs.cons trivial hvs))
  case iload n =>
    obtain rfl := z_b1 hchk
    obtain ⟨v, hv, hk⟩ := z_li_e h
    exact lv_iload hx hb hdec (hl.2.2.2 _ _ hv) (hK _ _ _ _ hk hu H locs pl la hH hl hvl (z_vs.cons trivial hvs))
  case iload_n n =>
    obtain rfl := z_b1 hchk
    obtain ⟨v, hv, hk⟩ := z_li_e h
    exact lv_iload_n hx hb hdec rfl (hl.2.2.2 _ _ hv) (hK _ _ _ _ hk hu H locs pl la hH hl hvl (z_vs.cons trivial hvs))
  case lload n =>
    obtain rfl := z_b1 hchk
    obtain ⟨v, hv, hk⟩ := z_ll_e h
    exact lv_lload hx hb hdec (hl.2.2.2 _ _ hv) (hK _ _ _ _ hk hu H locs pl la hH hl hvl (z_vs.cons trivial hvs))
  case lload_n n =>
    obtain rfl := z_b1 hchk
    obtain ⟨v, hv, hk⟩ := z_ll_e h
    exact lv_lload_n hx hb hdec rfl (hl.2.2.2 _ _ hv) (hK _ _ _ _ hk hu H locs pl la hH hl hvl (z_vs.cons trivial hvs))
  case aload n =>
    obtain rfl := z_b1 hchk
    obtain ⟨v, hv, hk⟩ := z_lr_e h
    cases v with
    | none => exact lv_aloadN hx hb hdec (hl.2.2.2 _ _ hv) (hK _ _ _ _ hk hu H locs pl la hH hl hvl (z_vs.cons (hvl _ _ hv) hvs))
    | some g => exact lv_aload hx hb hdec (hl.2.2.2 _ _ hv) (hK _ _ _ _ hk hu H locs pl la hH hl hvl (z_vs.cons (hvl _ _ hv) hvs))
  case aload_n n =>
    obtain rfl := z_b1 hchk
    obtain ⟨v, hv, hk⟩ := z_lr_e h
    cases v with
    | none => exact lv_aload_nN hx hb hdec rfl (hl.2.2.2 _ _ hv) (hK _ _ _ _ hk hu H locs pl la hH hl hvl (z_vs.cons (hvl _ _ hv) hvs))
    | some g => exact lv_aload_n hx hb hdec rfl (hl.2.2.2 _ _ hv) (hK _ _ _ _ hk hu H locs pl la hH hl hvl (z_vs.cons (hvl _ _ hv) hvs))
  case istore n =>
    simp only [z_chk1, Bool.and_eq_true, decide_eq_true_eq] at hchk
    obtain ⟨h1, h2⟩ := hchk
    obtain rfl := z_b1 h1
    obtain ⟨v, st, rfl, hk⟩ := z_p1_e h
    exact lv_istore hx hb hdec hl.has h2 rfl (fun la' h' => hK _ _ _ _ hk hu H locs pl la' hH (hl.st h') (hvl.st trivial) hvs.tl)
  case istore_n n =>
    simp only [z_chk1, Bool.and_eq_true, decide_eq_true_eq] at hchk
    obtain ⟨h1, h2⟩ := hchk
    obtain rfl := z_b1 h1
    obtain ⟨v, st, rfl, hk⟩ := z_p1_e h
    exact lv_istore_n hx hb hdec rfl hl.has h2 rfl (fun la' h' => hK _ _ _ _ hk hu H locs pl la' hH (hl.st h') (hvl.st trivial) hvs.tl)
  case lstore n =>
    simp only [z_chk1, Bool.and_eq_true, decide_eq_true_eq] at hchk
    obtain ⟨h1, h2⟩ := hchk
    obtain rfl := z_b1 h1
    obtain ⟨v, st, rfl, hk⟩ := z_q1_e h
    exact lv_lstore hx hb hdec hl.has h2 rfl (fun la' h' => hK _ _ _ _ hk hu H locs pl la' hH (hl.stl h') (z_vl.lc (hvl.st trivial)) hvs.tl)
  case lstore_n n =>
    simp only [z_chk1, Bool.and_eq_true, decide_eq_true_eq] at hchk
    obtain ⟨h1, h2⟩ := hchk
    obtain rfl := z_b1 h1
    obtain ⟨v, st, rfl, hk⟩ := z_q1_e h
    exact lv_lstore_n hx hb hdec rfl hl.has h2 rfl (fun la' h' => hK _ _ _ _ hk hu H locs pl la' hH (hl.stl h') (z_vl.lc (hvl.st trivial)) hvs.tl)
  case astore n =>
    simp only [z_chk1, Bool.and_eq_true, decide_eq_true_eq] at hchk
    obtain ⟨h1, h2⟩ := hchk
    obtain rfl := z_b1 h1
    obtain ⟨v, st, rfl, hk⟩ := z_r1_e h
    cases v with
    | none => exact lv_astoreN hx hb hdec hl.has h2 rfl (fun la' h' => hK _ _ _ _ hk hu H locs pl la' hH (hl.st h') (hvl.st hvs.hd) hvs.tl)
    | some g => exact lv_astore hx hb hdec hl.has h2 rfl (fun la' h' => hK _ _ _ _ hk hu H locs pl la' hH (hl.st h') (hvl.st hvs.hd) hvs.tl)
  case astore_n n =>
    simp only [z_chk1, Bool.and_eq_true, decide_eq_true_eq] at hchk
    obtain ⟨h1, h2⟩ := hchk
    obtain rfl := z_b1 h1
    obtain ⟨v, st, rfl, hk⟩ := z_r1_e h
    cases v with
    | none => exact lv_astore_nN hx hb hdec rfl hl.has h2 rfl (fun la' h' => hK _ _ _ _ hk hu H locs pl la' hH (hl.st h') (hvl.st hvs.hd) hvs.tl)
    | some g => exact lv_astore_n hx hb hdec rfl hl.has h2 rfl (fun la' h' => hK _ _ _ _ hk hu H locs pl la' hH (hl.st h') (hvl.st hvs.hd) hvs.tl)
  case iinc n k =>
    simp only [z_chk1, Bool.and_eq_true, decide_eq_true_eq] at hchk
    obtain ⟨h1, h2, h3⟩ := hchk
    obtain rfl := z_b1 h1
    obtain ⟨v, hv, hk⟩ := z_li_e h
    obtain ⟨q, hq⟩ := List.getElem?_of_mem (z_as_mem (pl := pl) hv)
    exact lv_iinc hx hb hdec hl.has hq (by rw [h3]) h2 rfl (fun la' h' => hK _ _ _ _ hk hu H locs pl la' hH (hl.st h') (hvl.st trivial) hvs)
  case iadd =>
    obtain rfl := z_b1 hchk
    obtain ⟨x, y, st, rfl, hk⟩ := z_p2_e h
    exact lv_iadd hx hb hdec (hK _ _ _ _ hk hu H locs pl la hH hl hvl (z_vs.cons trivial hvs.tl.tl))
  case isub =>
    obtain rfl := z_b1 hchk
    obtain ⟨x, y, st, rfl, hk⟩ := z_p2_e h
    exact lv_isub hx hb hdec (hK _ _ _ _ hk hu H locs pl la hH hl hvl (z_vs.cons trivial hvs.tl.tl))
  case imul =>
    obtain rfl := z_b1 hchk
    obtain ⟨x, y, st, rfl, hk⟩ := z_p2_e h
    exact lv_imul hx hb hdec (hK _ _ _ _ hk hu H locs pl la hH hl hvl (z_vs.cons trivial hvs.tl.tl))
  case iand =>
    obtain rfl := z_b1 hchk
    obtain ⟨x, y, st, rfl, hk⟩ := z_p2_e h
    exact lv_iand hx hb hdec (hK _ _ _ _ hk hu H locs pl la hH hl hvl (z_vs.cons trivial hvs.tl.tl))
  case ishl =>
    obtain rfl := z_b1 hchk
    obtain ⟨x, y, st, rfl, hk⟩ := z_p2_e h
    exact lv_ishl hx hb hdec (hK _ _ _ _ hk hu H locs pl la hH hl hvl (z_vs.cons trivial hvs.tl.tl))
  case ishr =>
    obtain rfl := z_b1 hchk
    obtain ⟨x, y, st, rfl, hk⟩ := z_p2_e h
    exact lv_ishr hx hb hdec (hK _ _ _ _ hk hu H locs pl la hH hl hvl (z_vs.cons trivial hvs.tl.tl))
  case iushr =>
    obtain rfl := z_b1 hchk
    obtain ⟨x, y, st, rfl, hk⟩ := z_p2_e h
    exact lv_iushr hx hb hdec rfl (hK _ _ _ _ hk hu H locs pl la hH hl hvl (z_vs.cons trivial hvs.tl.tl))
  case idiv =>
    obtain rfl := z_b1 hchk
    obtain ⟨x, y, st, rfl, hy, hk⟩ := z_p2_e h
    exact lv_idiv hx hb hdec hy (hK _ _ _ _ hk hu H locs pl la hH hl hvl (z_vs.cons trivial hvs.tl.tl))
  case irem =>
    obtain rfl := z_b1 hchk
    obtain ⟨x, y, st, rfl, hy, hk⟩ := z_p2_e h
    exact lv_irem hx hb hdec hy (hK _ _ _ _ hk hu H locs pl la hH hl hvl (z_vs.cons trivial hvs.tl.tl))
  case ineg =>
    obtain rfl := z_b1 hchk
    obtain ⟨x, st, rfl, hk⟩ := z_p1_e h
    exact lv_ineg hx hb hdec (hK _ _ _ _ hk hu H locs pl la hH hl hvl (z_vs.cons trivial hvs.tl))
  case i2l =>
    obtain rfl := z_b1 hchk
    obtain ⟨x, st, rfl, hk⟩ := z_p1_e h
    exact lv_i2l hx hb hdec rfl (hK _ _ _ _ hk hu H locs pl la hH hl hvl (z_vs.cons trivial hvs.tl))
  case ladd =>
    obtain rfl := z_b1 hchk
    obtain ⟨x, y, st, rfl, hk⟩ := z_q2_e h
    exact lv_ladd hx hb hdec (hK _ _ _ _ hk hu H locs pl la hH hl hvl (z_vs.cons trivial hvs.tl.tl))
  case lsub =>
    obtain rfl := z_b1 hchk
    obtain ⟨x, y, st, rfl, hk⟩ := z_q2_e h
    exact lv_lsub hx hb hdec (hK _ _ _ _ hk hu H locs pl la hH hl hvl (z_vs.cons trivial hvs.tl.tl))
  case lcmp =>
    obtain rfl := z_b1 hchk
    obtain ⟨x, y, st, rfl, hk⟩ := z_q2_e h
    exact W.lcmp hx hb hdec (hK _ _ _ _ hk hu H locs pl la hH hl hvl (z_vs.cons trivial hvs.tl.tl))
  case dup =>
    obtain rfl := z_b1 hchk
    match st, h with
    | v :: st, h =>
      obtain ⟨h1, hk⟩ := z_c1_e h
      have hc : (z_cv pl v).category = 1 := by
        rcases lv_cat (z_cv pl v) with q | q
        · exact q
        · exact absurd ((z_cv_cat v).mp q) h1
      exact lv_dup hx hb hdec hc (hK _ _ _ _ hk hu H locs pl la hH hl hvl (z_vs.cons hvs.hd hvs))
  case pop =>
    obtain rfl := z_b1 hchk
    match st, h with
    | v :: st, h =>
      obtain ⟨h1, hk⟩ := z_c1_e h
      have hc : (z_cv pl v).category = 1 := by
        rcases lv_cat (z_cv pl v) with q | q
        · exact q
        · exact absurd ((z_cv_cat v).mp q) h1
      exact lv_pop hx hb hdec hc (hK _ _ _ _ hk hu H locs pl la hH hl hvl hvs.tl)
  case dup2 =>
    obtain rfl := z_b1 hchk
    match st, h with
    | v :: w :: st, h =>
      obtain ⟨h1, hk⟩ := z_c1_e h
      replace hk := z_c1_e hk
      obtain ⟨h2, hk⟩ := hk
      have hc : (z_cv pl v).category = 1 := by
        rcases lv_cat (z_cv pl v) with q | q
        · exact q
        · exact absurd ((z_cv_cat v).mp q) h1
      have hc2 : (z_cv pl w).category = 1 := by
        rcases lv_cat (z_cv pl w) with q | q
        · exact q
        · exact absurd ((z_cv_cat w).mp q) h2
      exact lv_dup2_11 hx hb hdec hc hc2 (hK _ _ _ _ hk hu H locs pl la hH hl hvl (z_vs.cons hvs.hd (z_vs.cons hvs.tl.hd hvs)))
  case goto off =>
    simp only [z_chk1, Bool.and_eq_true, decide_eq_true_eq] at hchk
    obtain ⟨h1, h2⟩ := hchk
    obtain rfl := z_b1 h1
    exact lv_goto hx hb hdec h2 (hJ _ _ _ _ _ h hu H locs pl la hH hl hvl hvs)
  case if_icmp cd off =>
    simp only [z_chk1, Bool.and_eq_true, decide_eq_true_eq] at hchk
    obtain ⟨h1, h2⟩ := hchk
    obtain rfl := z_b1 h1
    cases cd
    · obtain ⟨x, y, st, rfl, hk⟩ := z_p2_e h
      exact lv_icmp_eq hx hb hdec h2 (fun q => hJ _ _ _ _ _ (hk.1 q) hu H locs pl la hH hl hvl hvs.tl.tl) (fun q => hK _ _ _ _ (hk.2 q) hu H locs pl la hH hl hvl hvs.tl.tl)
    · obtain ⟨x, y, st, rfl, hk⟩ := z_p2_e h
      exact lv_icmp_ne hx hb hdec h2 (fun q => hJ _ _ _ _ _ (hk.2 q) hu H locs pl la hH hl hvl hvs.tl.tl) (fun q => hK _ _ _ _ (hk.1 q) hu H locs pl la hH hl hvl hvs.tl.tl)
    · obtain ⟨x, y, st, rfl, hk⟩ := z_p2_e h
      exact lv_icmp_lt hx hb hdec h2 (fun q => hJ _ _ _ _ _ (hk.1 q) hu H locs pl la hH hl hvl hvs.tl.tl) (fun q => hK _ _ _ _ (hk.2 q) hu H locs pl la hH hl hvl hvs.tl.tl)
    · obtain ⟨x, y, st, rfl, hk⟩ := z_p2_e h
      exact lv_icmp_ge hx hb hdec h2 (fun q => hJ _ _ _ _ _ (hk.1 q) hu H locs pl la hH hl hvl hvs.tl.tl) (fun q => hK _ _ _ _ (hk.2 q) hu H locs pl la hH hl hvl hvs.tl.tl)
    · obtain ⟨x, y, st, rfl, hk⟩ := z_p2_e h
      exact lv_icmp_gt hx hb hdec h2 (fun q => hJ _ _ _ _ _ (hk.1 q) hu H locs pl la hH hl hvl hvs.tl.tl) (fun q => hK _ _ _ _ (hk.2 q) hu H locs pl la hH hl hvl hvs.tl.tl)
    · obtain ⟨x, y, st, rfl, hk⟩ := z_p2_e h
      exact lv_icmp_le hx hb hdec h2 (fun q => hJ _ _ _ _ _ (hk.1 q) hu H locs pl la hH hl hvl hvs.tl.tl) (fun q => hK _ _ _ _ (hk.2 q) hu H locs pl la hH hl hvl hvs.tl.tl)
  case ifCond cd off =>
    simp only [z_chk1, Bool.and_eq_true, decide_eq_true_eq] at hchk
    obtain ⟨h1, h2⟩ := hchk
    obtain rfl := z_b1 h1
    cases cd
    · obtain ⟨x, st, rfl, hk⟩ := z_p1_e h
      exact lv_if_eq hx hb hdec h2 (fun q => hJ _ _ _ _ _ (hk.1 q) hu H locs pl la hH hl hvl hvs.tl) (fun q => hK _ _ _ _ (hk.2 q) hu H locs pl la hH hl hvl hvs.tl)
    · obtain ⟨x, st, rfl, hk⟩ := z_p1_e h
      exact lv_if_ne hx hb hdec h2 (fun q => hJ _ _ _ _ _ (hk.2 q) hu H locs pl la hH hl hvl hvs.tl) (fun q => hK _ _ _ _ (hk.1 q) hu H locs pl la hH hl hvl hvs.tl)
    · obtain ⟨x, st, rfl, hk⟩ := z_p1_e h
      exact lv_if_lt hx hb hdec h2 (fun q => hJ _ _ _ _ _ (hk.1 q) hu H locs pl la hH hl hvl hvs.tl) (fun q => hK _ _ _ _ (hk.2 q) hu H locs pl la hH hl hvl hvs.tl)
    · obtain ⟨x, st, rfl, hk⟩ := z_p1_e h
      exact lv_if_ge hx hb hdec h2 (fun q => hJ _ _ _ _ _ (hk.1 q) hu H locs pl la hH hl hvl hvs.tl) (fun q => hK _ _ _ _ (hk.2 q) hu H locs pl la hH hl hvl hvs.tl)
    · obtain ⟨x, st, rfl, hk⟩ := z_p1_e h
      exact lv_if_gt hx hb hdec h2 (fun q => hJ _ _ _ _ _ (hk.1 q) hu H locs pl la hH hl hvl hvs.tl) (fun q => hK _ _ _ _ (hk.2 q) hu H locs pl la hH hl hvl hvs.tl)
    · obtain ⟨x, st, rfl, hk⟩ := z_p1_e h
      exact lv_if_le hx hb hdec h2 (fun q => hJ _ _ _ _ _ (hk.1 q) hu H locs pl la hH hl hvl hvs.tl) (fun q => hK _ _ _ _ (hk.2 q) hu H locs pl la hH hl hvl hvs.tl)
  case ifnull off =>
    simp only [z_chk1, Bool.and_eq_true, decide_eq_true_eq] at hchk
    obtain ⟨h1, h2⟩ := hchk
    obtain rfl := z_b1 h1
    obtain ⟨v, st, rfl, hk⟩ := z_r1_e h
    cases v with
    | none => exact lv_ifnullN hx hb hdec h2 (hJ _ _ _ _ _ (hk.1 rfl) hu H locs pl la hH hl hvl hvs.tl)
    | some g => exact lv_ifnull hx hb hdec (hK _ _ _ _ (hk.2 (fun q => nomatch q)) hu H locs pl la hH hl hvl hvs.tl)
  case ifnonnull off =>
    simp only [z_chk1, Bool.and_eq_true, decide_eq_true_eq] at hchk
    obtain ⟨h1, h2⟩ := hchk
    obtain rfl := z_b1 h1
    obtain ⟨v, st, rfl, hk⟩ := z_r1_e h
    cases v with
    | none => exact lv_ifnonnullN hx hb hdec (hK _ _ _ _ (hk.1 rfl) hu H locs pl la hH hl hvl hvs.tl)
    | some g => exact lv_ifnonnull hx hb hdec h2 (hJ _ _ _ _ _ (hk.2 (fun q => nomatch q)) hu H locs pl la hH hl hvl hvs.tl)
  case tableswitch d lo hi offs =>
    simp only [z_chk1, Bool.and_eq_true, decide_eq_true_eq] at hchk
    obtain ⟨h1, h2, h3⟩ := hchk
    obtain ⟨x, st, rfl, hk⟩ := z_p1_e h
    by_cases g : x.toInt < lo ∨ hi < x.toInt
    · exact lv_tableOut hx hb hdec g h1 (hJ _ _ _ _ _ (hk.1 g) hu H locs pl la hH hl hvl hvs.tl)
    · have g1 : ¬ x.toInt < lo := fun q => g (Or.inl q)
      have g2 : ¬ hi < x.toInt := fun q => g (Or.inr q)
      have g3 : (x.toInt - lo).toNat < offs.toList.length := by omega
      have g4 : offs.toList[(x.toInt - lo).toNat]? = some (offs.toList[(x.toInt - lo).toNat]) := List.getElem?_eq_getElem g3
      have g5 := List.all_eq_true.mp h3 _ (List.mem_of_getElem? g4)
      simp only [decide_eq_true_eq] at g5
      exact lv_tableIn hx hb hdec g1 g2 (by rw [← Array.getElem?_toList]; exact g4) (Int.toNat_of_nonneg g5).symm (hJ _ _ _ _ _ (z_sw_e _ _ hk.2 _ _ g4 (by omega)) hu H locs pl la hH hl hvl hvs.tl)
  case getfield n =>
    simp only [z_chk1, Bool.and_eq_true, decide_eq_true_eq] at hchk
    obtain ⟨h1, h2⟩ := hchk
    obtain rfl := z_b1 h1
    obtain ⟨h3, h4, h5⟩ := z_FL_ok h2
    obtain ⟨g, st, rfl, hk⟩ := z_h1_e h
    replace hk := z_ok_e hk
    obtain ⟨h6, hk⟩ := hk
    obtain rfl := z_b1 h6
    have hv := z_vv_va hvs.hd (by omega)
    obtain ⟨⟨L, F, hP, hD, hR⟩, hS, hX⟩ := id hH
    obtain ⟨q0, hq⟩ := hR.get hv
    rw [z_obj h4] at hq
    refine va_get (v := z_cv pl (z_gf m g b)) hx hb hts (z_in_all _ h4) hown hVK hP q0 hq (z_fs_cl _ h4) b h5 (hts _ h3) (fun _ q => by rw [z_TT_cn _ h4 _ h5] at q; exact q) (z_rget h5) hdec ?_
    refine hK _ _ _ _ hk hu H locs pl la hH hl hvl (z_vs.cons ?_ hvs.tl)
    exact z_gf_vv hR hv h4 h5
  case putfield n =>
    simp only [z_chk1, Bool.and_eq_true, decide_eq_true_eq, Bool.not_eq_true'] at hchk
    obtain ⟨h1, h2, hfin⟩ := hchk
    obtain rfl := z_b1 h1
    obtain ⟨h3, h4, h5⟩ := z_FL_ok h2
    match st, h with
    | v :: st, h =>
      obtain ⟨g, st, rfl, hk⟩ := z_h1_e h
      replace hk := z_ok_e hk
      obtain ⟨h6, hk⟩ := hk
      obtain rfl := z_b1 h6
      have hv := z_vv_va hvs.tl.hd (by omega)
      obtain ⟨⟨L, F, hP, hD, hR⟩, hS, hX⟩ := id hH
      obtain ⟨q0, hq⟩ := hR.get hv
      have hq2 := hq
      rw [z_obj h4] at hq
      have hlen : b < (z_fs pl m g.1 g.2.1 g.2.2).length := by simp [z_fs, h5]
      obtain ⟨m', hnb, hc, hR', hf1, hf2, hf3⟩ := z_pf_e (tc := tc) hR hv h4 h5 hvs.hd hk
      refine va_put (v := z_cv pl v) (ty := z_YY g.1 b) hx hb hts (z_in_all _ h4) (z_YY g.1) (z_ty_all _ h4) (z_nm_all _ h4) hown hVK hP hD hS q0 hq (z_fs_cl _ h4) b h5 (hts _ h3) (fun _ q => by rw [z_TT_cn _ h4 _ h5] at q; exact q) hfin (z_ty_all _ h4 b h5) hf1 hf2 hlen hdec (fun H1 locs1 hP1 hD1 hS1 => ?_)
      have hH' := z_Hp.set (m' := m') hD hq2 hR hv (by rw [z_obj h4, ← hf3]) hR' hnb hP1 hD1 hS1 hX
      exact hK _ _ _ _ hc hu H1 locs1 pl la hH' hl (by rw [hnb]; exact hvl) (by rw [hnb]; exact hvs.tl.tl)
  case iaload =>
    obtain rfl := z_b1 hchk
    obtain ⟨j, g, st, rfl, hk⟩ := z_a1_e h
    replace hk := z_on_e hk
    obtain ⟨n, hn, hin, hk⟩ := hk
    obtain ⟨⟨L, F, hP, hD, hR⟩, hS, hX⟩ := id hH
    by_cases h34 : g.1 = 34
    · obtain ⟨gk, gr, gi⟩ := g
      dsimp only at h34
      subst h34
      have e : (34, gr, gi) = (34, 1, 0) := by
        rcases hvs.tl.hd with q | q
        · exact absurd q.1 (Nat.not_lt_zero gi)
        · exact q
      cases e
      cases sc with
      | none => cases hn
      | some q =>
        cases hn
        obtain ⟨h1, h2, h3⟩ := hsc q rfl
        have e2 : z_cv pl (zr (some (34, 1, 0))) = .ref (pl0 34 1 0) := congrArg Value.ref hX.2.2
        show W p l e R s mi args below meth c H locs _ _ QQ (F0 mi pc la (.int j :: z_cv pl (zr (some (34, 1, 0))) :: st.map (z_cv pl)))
        rw [e2]
        exact va_sld hx hb h1 h2 h3 hS hin hdec (hK _ _ _ _ hk hu H locs pl la hH hl hvl (z_vs.cons trivial hvs.tl.tl))
    · have hn' : z_ik g.1 = some n := by
        rw [← hn]
        unfold z_is
        split
        · exact absurd (by assumption) h34
        · rfl
      have hiv : z_iv sc m g j.toNatClampNeg = z_I (z_g m g.2.1) g.1 g.2.2 j.toNatClampNeg := by
        unfold z_iv
        split
        · exact absurd (by assumption) h34
        · rfl
      rw [hiv] at hk
      have hv := z_vv_va hvs.tl.hd h34
      obtain ⟨q0, hq⟩ := hR.get hv
      rw [z_arr hn'] at hq
      refine va_iald hx hb hVK hP q0 0 hq rfl hin hdec ?_
      rw [z_rw_in (z_in_lt hin)]
      exact hK _ _ _ _ hk hu H locs pl la hH hl hvl (z_vs.cons trivial hvs.tl.tl)
  case laload =>
    obtain rfl := z_b1 hchk
    obtain ⟨j, g, st, rfl, hk⟩ := z_a1_e h
    replace hk := z_on_e hk
    obtain ⟨n, hn, hin, hk⟩ := hk
    obtain ⟨⟨L, F, hP, hD, hR⟩, hS, hX⟩ := id hH
    have hv := z_vv_va hvs.tl.hd (z_lk34 hn)
    obtain ⟨q0, hq⟩ := hR.get hv
    rw [z_arrL hn] at hq
    refine va_lald hx hb hVK hP q0 1 hq rfl hin hdec ?_
    rw [z_rw_in (z_in_lt hin)]
    exact hK _ _ _ _ hk hu H locs pl la hH hl hvl (z_vs.cons trivial hvs.tl.tl)
  case baload =>
    obtain rfl := z_b1 hchk
    obtain ⟨j, g, st, rfl, hk⟩ := z_a1_e h
    replace hk := z_ok_e hk
    obtain ⟨h6, hin, hk⟩ := hk
    obtain ⟨gk, gr, gi⟩ := g
    obtain rfl := z_b1 h6
    obtain ⟨⟨L, F, hP, hD, hR⟩, hS, hX⟩ := id hH
    have hv := z_vv_va hvs.tl.hd (show (29 : Nat) ≠ 34 by decide)
    obtain ⟨q0, hq⟩ := hR.get hv
    refine va_zald (n := 2) (f := z_rw 2 0 fun j => z_I (z_g m gr) 29 gi j) hx hb hVK hP q0 2 hq rfl hin hdec ?_
    rw [z_rw_in (z_in_lt hin)]
    exact hK _ _ _ _ hk hu H locs pl la hH hl hvl (z_vs.cons trivial hvs.tl.tl)
  case iastore =>
    obtain rfl := z_b1 hchk
    obtain ⟨v, st, rfl, hk⟩ := z_p1_e h
    replace hk := z_a1_e hk
    obtain ⟨j, g, st, rfl, hk⟩ := hk
    replace hk := z_on_e hk
    obtain ⟨n, hn, hin, hk⟩ := hk
    obtain ⟨⟨L, F, hP, hD, hR⟩, hS, hX⟩ := id hH
    have hv := z_vv_va hvs.tl.tl.hd (z_ik34 hn)
    obtain ⟨q0, hq⟩ := hR.get hv
    have hq2 := hq
    rw [z_arr hn] at hq
    refine va_iast hx hb hVK hP hD hS q0 0 hq rfl hin hdec (fun H1 locs1 hP1 hD1 hS1 => ?_)
    have hH' := z_Hp.set (m' := z_s m g.2.1 (z_uI (z_g m g.2.1) g.1 g.2.2 j.toNatClampNeg v)) hD hq2 hR hv (by rw [z_arr hn, z_rw_up (z_in_lt hin) (g := fun j' => z_I (z_g (z_s m g.2.1 (z_uI (z_g m g.2.1) g.1 g.2.2 j.toNatClampNeg v)) g.2.1) g.1 g.2.2 j') (by rw [z_g_ss, z_I_u, if_pos ⟨rfl, rfl, rfl⟩]) (fun q h => by rw [z_g_ss, z_I_u, if_neg fun w => h w.2.2])]) (hR.putI hv _ _) rfl hP1 hD1 hS1 hX
    exact hK _ _ _ _ hk hu H1 locs1 pl la hH' hl hvl hvs.tl.tl.tl
  case lastore =>
    obtain rfl := z_b1 hchk
    obtain ⟨v, st, rfl, hk⟩ := z_q1_e h
    replace hk := z_a1_e hk
    obtain ⟨j, g, st, rfl, hk⟩ := hk
    replace hk := z_on_e hk
    obtain ⟨n, hn, hin, hk⟩ := hk
    obtain ⟨⟨L, F, hP, hD, hR⟩, hS, hX⟩ := id hH
    have hv := z_vv_va hvs.tl.tl.hd (z_lk34 hn)
    obtain ⟨q0, hq⟩ := hR.get hv
    have hq2 := hq
    rw [z_arrL hn] at hq
    refine va_last hx hb hVK hP hD hS q0 1 hq rfl hin hdec (fun H1 locs1 hP1 hD1 hS1 => ?_)
    have hH' := z_Hp.set (m' := z_s m g.2.1 (z_uJ (z_g m g.2.1) g.1 g.2.2 j.toNatClampNeg v)) hD hq2 hR hv (by rw [z_arrL hn, z_rw_upL (z_in_lt hin) (g := fun j' => z_J (z_g (z_s m g.2.1 (z_uJ (z_g m g.2.1) g.1 g.2.2 j.toNatClampNeg v)) g.2.1) g.1 g.2.2 j') (by rw [z_g_ss, z_J_u, if_pos ⟨rfl, rfl, rfl⟩]) (fun q h => by rw [z_g_ss, z_J_u, if_neg fun w => h w.2.2])]) (hR.putJ hv _ _) rfl hP1 hD1 hS1 hX
    exact hK _ _ _ _ hk hu H1 locs1 pl la hH' hl hvl hvs.tl.tl.tl
  case bastore =>
    obtain rfl := z_b1 hchk
    obtain ⟨v, st, rfl, hk⟩ := z_p1_e h
    replace hk := z_a1_e hk
    obtain ⟨j, g, st, rfl, hk⟩ := hk
    replace hk := z_ok_e hk
    obtain ⟨h6, hin, rfl, hk⟩ := hk
    obtain ⟨gk, gr, gi⟩ := g
    obtain rfl := z_b1 h6
    obtain ⟨⟨L, F, hP, hD, hR⟩, hS, hX⟩ := id hH
    have hv := z_vv_va hvs.tl.tl.hd (show (29 : Nat) ≠ 34 by decide)
    obtain ⟨q0, hq⟩ := hR.get hv
    refine va_zast (n := 2) (f := z_rw 2 0 fun j => z_I (z_g m gr) 29 gi j) hx hb hVK hP hD hS q0 2 hq rfl hin hdec (fun H1 locs1 hP1 hD1 hS1 => ?_)
    have e1 : vp_nar .boolean 1 = 1 := by decide
    rw [e1] at hP1 hD1
    have hH' := z_Hp.set (m' := z_s m gr (z_uI (z_g m gr) 29 gi j.toNatClampNeg 1)) hD hq hR hv (by
      rw [z_rw_up (z_in_lt hin) (g := fun j' => z_I (z_g (z_s m gr (z_uI (z_g m gr) 29 gi j.toNatClampNeg 1)) gr) 29 gi j') (by rw [z_g_ss, z_I_u, if_pos ⟨rfl, rfl, rfl⟩]) (fun q h => by rw [z_g_ss, z_I_u, if_neg fun w => h w.2.2])]
      rfl) (hR.putI hv _ _) rfl hP1 hD1 hS1 hX
    exact hK _ _ _ _ hk hu H1 locs1 pl la hH' hl hvl hvs.tl.tl.tl
  case aaload =>
    obtain rfl := z_b1 hchk
    obtain ⟨j, g, st, rfl, hk⟩ := z_a1_e h
    obtain ⟨⟨L, F, hP, hD, hR⟩, hS, hX⟩ := id hH
    rcases hrk : z_rk g.1 with _ | ⟨n, k' | b'⟩ <;> rw [hrk] at hk
    · exact hk.elim
    · obtain ⟨hin, hk⟩ := hk
      have hv := z_vv_va hvs.tl.hd (z_rk34 hrk)
      obtain ⟨q0, hq⟩ := hR.get hv
      rw [z_arrR hrk] at hq
      obtain ⟨t1, ht1, hva⟩ := z_rk_in (nb := z_nb m) (tc := tc) hrk hv (z_in_lt hin)
      refine va_aldq hx hb hVK hP q0 t1 hq ht1 hin hdec ?_
      rw [z_rw_in (z_in_lt hin)]
      exact hK _ _ _ _ hk hu H locs pl la hH hl hvl (z_vs.cons (Or.inl hva) hvs.tl.tl)
    · obtain ⟨hin, hk⟩ := hk
      have hv := z_vv_va hvs.tl.hd (z_rk34 hrk)
      obtain ⟨q0, hq⟩ := hR.get hv
      rw [z_arrD hrk] at hq
      refine va_aldq hx hb hVK hP q0 3 hq rfl hin hdec ?_
      rw [z_rw_in (z_in_lt hin), ← z_bk_cv]
      exact hK _ _ _ _ hk hu H locs pl la hH hl hvl (z_vs.cons (z_bk_vv hR) hvs.tl.tl)
  case aastore =>
    obtain rfl := z_b1 hchk
    obtain ⟨f, st, rfl, hk⟩ := z_h1_e h
    replace hk := z_ok_e hk
    obtain ⟨h6, hk⟩ := hk
    obtain ⟨fk, fr, fi⟩ := f
    obtain rfl := z_b1 h6
    replace hk := z_a1_e hk
    obtain ⟨j, g, st, rfl, hk⟩ := hk
    obtain ⟨⟨L, F, hP, hD, hR⟩, hS, hX⟩ := id hH
    rcases hrk : z_rk g.1 with _ | ⟨n, k' | b'⟩ <;> rw [hrk] at hk
    · exact hk.elim
    · exact hk.elim
    · obtain ⟨hin, hk⟩ := hk
      have hv := z_vv_va hvs.tl.tl.hd (z_rk34 hrk)
      have hvf := z_vv_va hvs.hd (show (0 : Nat) ≠ 34 by decide)
      have hvf : z_va (z_nb m) 0 fr fi := hvf
      have hfi : fi = 0 := by have e1 : z_cnt 0 = 1 := rfl; have := hvf.1; rw [e1] at this; omega
      subst hfi
      have hfr : 2 ≤ fr ∧ fr < z_nb m := by
        have e2 : z_rt 0 = 2 := rfl
        have := hvf.2
        rw [e2] at this
        omega
      obtain ⟨q0, hq⟩ := hR.get hv
      have hq2 := hq
      rw [z_arrD hrk] at hq
      obtain ⟨q1, hq1⟩ := hR.get hvf
      rw [z_obj (show (0 : Nat) < 7 by decide)] at hq1
      refine va_astq (r := (z_cn 0, z_TT 0, z_nf 0)) hx hb hVK hP hD hS q0 3 q1 0 hq rfl hq1 rfl hin hdec (fun H1 locs1 hP1 hD1 hS1 => ?_)
      obtain ⟨hj5, hjs⟩ := z_rk_slot hrk (z_in_lt hin)
      have hH' := z_Hp.set (m' := z_sd m (b' + j.toNatClampNeg) (some fr)) hD hq2 hR hv (by
        rw [z_arrD hrk, z_rw_upR (z_in_lt hin) (g := fun j' => (z_d (z_sd m (b' + j.toNatClampNeg) (some fr)) (b' + j')).map fun q => pl 0 q 0) (by rw [show z_d (z_sd m (b' + j.toNatClampNeg) (some fr)) (b' + j.toNatClampNeg) = some fr from if_pos rfl]; rfl) (fun q h => by rw [show z_d (z_sd m (b' + j.toNatClampNeg) (some fr)) (b' + q) = z_d m (b' + q) from if_neg (by omega)])]) (hR.putD hv _ _ hfr hj5 hjs) rfl hP1 hD1 hS1 hX
      exact hK _ _ _ _ hk hu H1 locs1 pl la hH' hl hvl hvs.tl.tl.tl
  case arraylength =>
    obtain rfl := z_b1 hchk
    obtain ⟨g, st, rfl, hk⟩ := z_h1_e h
    replace hk := z_ok_e hk
    obtain ⟨h6, hk⟩ := hk
    replace hk := z_on_e hk
    obtain ⟨n, hn, hk⟩ := hk
    obtain ⟨⟨L, F, hP, hD, hR⟩, hS, hX⟩ := id hH
    obtain ⟨gk, gr, gi⟩ := g
    obtain rfl := z_b1 h6
    have e : (34, gr, gi) = (34, 1, 0) := by
      rcases hvs.hd with q | q
      · exact absurd q.1 (Nat.not_lt_zero gi)
      · exact q
    cases e
    cases sc with
    | none => cases hn
    | some q =>
      cases hn
      obtain ⟨h1, h2, h3⟩ := hsc q rfl
      have e2 : z_cv pl (zr (some (34, 1, 0))) = .ref (pl0 34 1 0) := congrArg Value.ref hX.2.2
      show W p l e R s mi args below meth c H locs _ _ QQ (F0 mi pc la (z_cv pl (zr (some (34, 1, 0))) :: st.map (z_cv pl)))
      rw [e2]
      exact va_slen hx hb h1 h2 h3 hS hdec (hK _ _ _ _ hk hu H locs pl la hH hl hvl (z_vs.cons trivial hvs.tl))
  case invokevirtual n =>
    simp only [z_chk1, Bool.and_eq_true, decide_eq_true_eq] at hchk
    obtain ⟨h1, h2, h3, h4, h0⟩ := hchk
    obtain rfl := z_b1 h1
    obtain rfl := z_b1 h3
    have hst := z_b1 h4
    obtain ⟨as, st, hlen, rfl, hk⟩ := z_po_e h
    replace hk := z_ok_e hk
    obtain ⟨hsh, hk⟩ := hk
    replace hk := z_rc_e hk
    obtain ⟨g, as', rfl, hgk, hk⟩ := hk
    replace hk := z_ok_e hk
    obtain ⟨hbud, hk⟩ := hk
    obtain ⟨hml2, hj⟩ := z_ML_ok h2
    have hvas : z_vs none (z_nb m) (zr (some g) :: as') := fun v q => hvs v (List.mem_append_left _ (List.mem_reverse.mpr q))
    have h229 : a < 229 := by
      rcases hj with q | q
      · exact q
      · have e9 : g.1 = 100 := by rw [hgk, q]; rfl
        rcases hvas.hd with w | w
        · have := z_cnt_lt w.1
          omega
        · rw [w] at e9
          exact absurd e9 (by decide)
    have hsp : z_sp a = 0 := z_sp_v h229 hst
    have hvst : z_vs sc (z_nb m) st := fun v q => hvs v (List.mem_append_right _ q)
    obtain ⟨⟨L, F, hP, hD, hR⟩, hS, hX⟩ := id hH
    obtain ⟨hc1, hc2, hc3, hc4, hc5, hc6, hc7⟩ := z_mth h0 h229
    have hk7 := z_mK_v h0 h229 hst
    have hv := z_vv_va (sc := none) hvas.hd (by omega)
    obtain ⟨q0, hq⟩ := hR.get hv
    rw [z_obj (by omega)] at hq
    generalize hasd : zr (some g) :: as' = as at *
    have hgo : W p l e R s mi args below meth c H locs (c0 + 123 * u) (s0 + 1154 * u) QQ (F0 mi pc la ((as.map (z_cv pl)).reverse ++ st.map (z_cv pl))) := by
      have hLA : ∀ q, z_Aw L H.size q → A q := fun q h => h.elim (fun g => z_in_A hD g) (fun g => hA q (Nat.le_trans hS.1 g))
      have hM := hcl _ _ _ _ L F pl H.size hk h0 h229 hsp hvas hR
      have hcf : c0 + 123 * u + 123 * z_mB a ≤ R.cells ∧ s0 + 1154 * u + 1154 * z_mB a ≤ R.slots := by
        have := Nat.le_of_ble_eq_true hbud
        constructor <;> omega
      have hfb : FrameBlind (z_Pc D tc L F pl H.size as) := fun v U g mk q => ⟨q.1, q.2.1, q.2.2.1, q.2.2.2.1, va_K.moved (u := U) (U := U.calling g mk v) (Vm.Alike.refl U.vm) q.2.2.2.2.1, z_Zs.same (s := U) (U := U.calling g mk v) rfl q.2.2.2.2.2⟩
      have hpre : ∀ U : State, U.heap = H → s.WarmedH U.vm → z_Pc D tc L F pl H.size as (as.map (z_cv pl)).toArray U := fun U hU hW => ⟨rfl, by rw [hU], by rw [hU]; exact hP, hD.weaken (fun _ _ _ _ => trivial), va_K.moved hW.alike hVK, hZ.warm hW⟩
      have hmap : as.map (z_cv pl) = .ref (pl g.1 g.2.1 g.2.2) :: as'.map (z_cv pl) := by rw [← hasd]; rfl
      have hcw : CallW R s args (z_cn own) (z_cn (z_mK a)) n (z_nm a) (z_by a) (z_mL a) (z_re a) (z_wd a) (z_rm dp (z_mB a)) (123 * z_mB a) (1154 * z_mB a) (z_mA a) := by
        refine ⟨callB_of (Ts := z_tbl) (ws' := z_tbl) (z_mA a) hts (z_wd_good h0 h229) rfl rfl rfl (hts _ (by rw [hc1]; exact z_ini hc2)) (hts _ (by have := hml2; rw [z_mn_v hsp] at this; exact this)) ⟨hc5, hc6, hc4⟩ ⟨hfr, by show 8 + (z_mL a + 11) + 38 * dp ≤ R.locals; omega⟩, hts _ (by have := z_wi_ok h0 h229; rw [z_wi, hst] at this; exact this), hts _ (by have := z_ws_ok h0 h229; rw [z_wsl, hst] at this; exact this)⟩
      refine z_after (j := a) (va_runV (Ts := z_tbl) (As := as'.map (z_cv pl)) (rest := st.map (z_cv pl)) (b := pl g.1 g.2.1 g.2.2) ⟨hx, hb, hml, hown, hts⟩ hM hcw ⟨hfb, by rw [← hgk]; exact va_recv hVK hP (z_fs_cl _ (by omega)) hq, fun U hU hW => by rw [← hmap]; exact hpre U hU hW⟩ rfl (by simp; have := hlen; rw [← hasd] at this; simp at this; omega) hl.1 (by rw [hmap]; simp) (lv_room (by have := z_sh_e (pl := pl) _ _ hsh; omega)) hdec hcf) hS hLA hX (fun r m' pl' H1 locs1 hq hvr hx' hH' => ?_)
      have hw := hK _ _ _ _ hq (Nat.le_of_ble_eq_true hbud) H1 locs1 pl' la hH' (z_ls_ext hx' hvl hl) (fun n v q => (hvl n v q).mono hx'.1) (z_vs_psh hvr (fun v q => (hvst v q).mono hx'.1))
      rw [z_psh_cv, z_st_ext hx' hvst] at hw
      exact W.cnt (by omega) (by omega) hw
    have e3 : (as.reverse ++ st).map (z_cv pl) = (as.map (z_cv pl)).reverse ++ st.map (z_cv pl) := by simp
    rw [e3]
    exact hgo
  case invokestatic n =>
    simp only [z_chk1, Bool.and_eq_true, Bool.or_eq_true, decide_eq_true_eq] at hchk
    obtain ⟨h1, h2, h3⟩ := hchk
    obtain rfl := z_b1 h1
    obtain ⟨hml2, hj⟩ := z_ML_ok h2
    rcases hsp : z_sp a with _ | _ | _ | q
    · have h := (show z_po b st _ from by have := h; unfold z_ex at this; dsimp only at this; rw [hsp] at this; exact this)
      have hn9 : a ≠ 999 := fun e => by subst e; cases hsp
      obtain ⟨hb1, hb2, h0⟩ : b = z_mA a ∧ z_mS a = 1 ∧ 0 < a := by
        rcases h3 with ⟨q1, q2, q3⟩ | q
        · exact ⟨z_b1 q1, z_b1 q2, q3⟩
        · exact absurd (z_b1 q) hn9
      obtain rfl := hb1
      have h229 : a < 229 := hj.resolve_right hn9
      obtain ⟨as, st, hlen, rfl, hk⟩ := z_po_e h
      replace hk := z_ok_e hk
      obtain ⟨hsh, hk⟩ := hk
      replace hk := z_ok_e hk
      obtain ⟨hbud, hk⟩ := hk
      have hvas : z_vs none (z_nb m) as := fun v q => hvs v (List.mem_append_left _ (List.mem_reverse.mpr q))
      have hvst : z_vs sc (z_nb m) st := fun v q => hvs v (List.mem_append_right _ q)
      obtain ⟨⟨L, F, hP, hD, hR⟩, hS, hX⟩ := id hH
      obtain ⟨hc1, hc2, hc3, hc4, hc5, hc6, hc7⟩ := z_mth h0 h229
      have hLA : ∀ q, z_Aw L H.size q → A q := fun q h => h.elim (fun g => z_in_A hD g) (fun g => hA q (Nat.le_trans hS.1 g))
      have hM := hcl _ _ _ _ L F pl H.size hk h0 h229 hsp hvas hR
      have hcf : c0 + 123 * u + 123 * z_mB a ≤ R.cells ∧ s0 + 1154 * u + 1154 * z_mB a ≤ R.slots := by
        have := Nat.le_of_ble_eq_true hbud
        constructor <;> omega
      have hfb : FrameBlind (z_Pc D tc L F pl H.size as) := fun v U g mk q => ⟨q.1, q.2.1, q.2.2.1, q.2.2.2.1, va_K.moved (u := U) (U := U.calling g mk v) (Vm.Alike.refl U.vm) q.2.2.2.2.1, z_Zs.same (s := U) (U := U.calling g mk v) rfl q.2.2.2.2.2⟩
      have hpre : ∀ U : State, U.heap = H → s.WarmedH U.vm → z_Pc D tc L F pl H.size as (as.map (z_cv pl)).toArray U := fun U hU hW => ⟨rfl, by rw [hU], by rw [hU]; exact hP, hD.weaken (fun _ _ _ _ => trivial), va_K.moved hW.alike hVK, hZ.warm hW⟩
      have hcw : CallB R s args (z_cn own) n (z_nm a) (z_by a) (z_mL a) (z_re a) (z_wd a) (z_rm dp (z_mB a)) (123 * z_mB a) (1154 * z_mB a) (z_mA a) ∧ (Cond.static (z_nm a)).before args s = true := by
        refine ⟨callB_of (Ts := z_tbl) (ws' := z_tbl) (z_mA a) hts (z_wd_good h0 h229) rfl rfl rfl (hts _ (by rw [hc1]; exact z_ini hc2)) (hts _ (by have := hml2; rw [z_mn_v hsp] at this; exact this)) ⟨hc5, hc6, hc4⟩ ⟨hfr, by show 8 + (z_mL a + 11) + 38 * dp ≤ R.locals; omega⟩, hts _ (by have := z_wi_ok h0 h229; rw [z_wi, hb2] at this; exact this)⟩
      have e3 : (as.reverse ++ st).map (z_cv pl) = (as.map (z_cv pl)).reverse ++ st.map (z_cv pl) := by simp
      rw [e3]
      refine z_after (j := a) (va_runS (Ts := z_tbl) (As := as.map (z_cv pl)) (rest := st.map (z_cv pl)) ⟨hx, hb, hml, hown, hts⟩ hM hcw ⟨hfb, hpre⟩ rfl (by simp [hlen]) hl.1 rfl (lv_room (by have := z_sh_e (pl := pl) _ _ hsh; omega)) hdec hcf) hS hLA hX (fun r m' pl' H1 locs1 hq hvr hx' hH' => ?_)
      have hw := hK _ _ _ _ hq (Nat.le_of_ble_eq_true hbud) H1 locs1 pl' la hH' (z_ls_ext hx' hvl hl) (fun n v q => (hvl n v q).mono hx'.1) (z_vs_psh hvr (fun v q => (hvst v q).mono hx'.1))
      rw [z_psh_cv, z_st_ext hx' hvst] at hw
      exact W.cnt (by omega) (by omega) hw
    · have h := (show z_po 5 st _ from by have := h; unfold z_ex at this; dsimp only at this; rw [hsp] at this; exact this)
      have ha : a = 999 := by
        rcases z_sp_e hsp with q | q | q
        · exact q.2
        · omega
        · omega
      subst ha
      obtain ⟨as, st, hlen, rfl, hk⟩ := z_po_e h
      replace hk := z_ok_e hk
      obtain ⟨hsh, hk⟩ := hk
      replace hk := z_ac_e hk
      obtain ⟨g1, g2, nn, rfl, hne, hn1, hn2, hn0, hk⟩ := hk
      have hv0 : z_vs sc (z_nb m) (zi nn :: zi 0 :: zr (some g2) :: zi 0 :: zr (some g1) :: st) := hvs
      have hvst : z_vs sc (z_nb m) st := hv0.tl.tl.tl.tl.tl
      obtain ⟨⟨L, F, hP, hD, hR⟩, hS, hX⟩ := id hH
      have hv1 := z_vv_va hv0.tl.tl.tl.tl.hd (z_ik34 hn1)
      have hv2 := z_vv_va hv0.tl.tl.hd (z_ik34 hn2)
      obtain ⟨q0, hq⟩ := hR.get hv1
      rw [z_arr hn1] at hq
      obtain ⟨q1, hq1⟩ := hR.get hv2
      have hq2 := hq1
      rw [z_arr hn2] at hq1
      have hnn : ¬ nn < 0 := Int32.not_lt.mpr hn0
      have e0 : (0 : Int32).toNatClampNeg = 0 := rfl
      show W p l e R s mi args below meth c H locs (c0 + 123 * u) (s0 + 1154 * u) QQ (F0 mi pc la (.int nn :: .int 0 :: .ref (pl g2.1 g2.2.1 g2.2.2) :: .int 0 :: .ref (pl g1.1 g1.2.1 g1.2.2) :: st.map (z_cv pl)))
      refine va_copyi hx hb (hml.trans hl.1.symm) hown (hts _ hml2) (hts _ z_w_sys.1) (hts _ z_w_sys.2.1) (hts _ z_w_sys.2.2) hVK hP hD hS q0 q1 0 0 hq hq1 rfl rfl rfl (by decide) (by decide) hnn (by rw [e0]; omega) (by rw [e0]; omega) (fun i _ => rfl) (by omega) (by
        have := z_sh_e (pl := pl) _ _ hsh
        have e5 : nativeFrameWords "java/lang/System" "arraycopy" 5 = 7 := by decide
        rw [e5]; omega) hdec (fun H1 locs1 hP1 hD1 hS1 => ?_)
      rw [e0] at hP1 hD1
      have hH' := z_Hp.set (m' := z_s m g2.2.1 (z_cp (z_g m g2.2.1) g2.1 g2.2.2 (z_g m g1.2.1) g1.1 g1.2.2)) hD hq2 hR hv2 (by rw [z_arr hn2, z_rw_cpy (h := fun j => z_I (z_g (z_s m g2.2.1 (z_cp (z_g m g2.2.1) g2.1 g2.2.2 (z_g m g1.2.1) g1.1 g1.2.2)) g2.2.1) g2.1 g2.2.2 j) (fun q _ => by rw [z_g_ss, z_I_cp, if_pos ⟨rfl, rfl⟩])]) (hR.putC hv2 _ _ _) rfl hP1 hD1 hS1 hX
      exact hK _ _ _ _ hk hu H1 locs1 pl la hH' hl hvl hvst
    · have h := (show z_p2 st _ from by have := h; unfold z_ex at this; dsimp only at this; rw [hsp] at this; exact this)
      have ha : a = 226 := by
        rcases z_sp_e hsp with q | q | q
        · omega
        · exact q.2
        · omega
      subst ha
      obtain ⟨x, y, st, rfl, hk⟩ := z_p2_e h
      replace hk := z_ok_e hk
      obtain ⟨hsh, hk⟩ := hk
      obtain ⟨e1, e2, e3, e4⟩ := z_w_max
      refine va_mmax hx hb (hml.trans hl.1.symm) hown (hts _ (by rw [← e1]; exact hml2)) (hts _ (by rw [← e1]; exact z_wi_ok (j := 226) (by decide) (by decide))) (hts _ (z_ini (c := 8) (by decide))) (hts _ (by rw [← e1, ← e2, ← e3, ← e4]; exact z_co (by decide) (by decide))) (by omega) (by have := z_sh_e (pl := pl) _ _ hsh; omega) (by omega) (by omega) hdec ?_
      exact hK _ _ _ _ hk hu H locs pl la hH hl hvl (z_vs.cons trivial hvs.tl.tl)
    · have h := (show z_p2 st _ from by have := h; unfold z_ex at this; dsimp only at this; rw [hsp] at this; exact this)
      have ha : a = 227 := by
        rcases z_sp_e hsp with q | q | q
        · omega
        · omega
        · exact q.2
      subst ha
      obtain ⟨x, y, st, rfl, hk⟩ := z_p2_e h
      replace hk := z_ok_e hk
      obtain ⟨hsh, hk⟩ := hk
      obtain ⟨e1, e2, e3, e4⟩ := z_w_min
      refine va_mmin hx hb (hml.trans hl.1.symm) hown (hts _ (by rw [← e1]; exact hml2)) (hts _ (by rw [← e1]; exact z_wi_ok (j := 227) (by decide) (by decide))) (hts _ (z_ini (c := 8) (by decide))) (hts _ (by rw [← e1, ← e2, ← e3, ← e4]; exact z_co (by decide) (by decide))) (by omega) (by have := z_sh_e (pl := pl) _ _ hsh; omega) (by omega) (by omega) hdec ?_
      exact hK _ _ _ _ hk hu H locs pl la hH hl hvl (z_vs.cons trivial hvs.tl.tl)
  case new n =>
    simp only [z_chk1, Bool.and_eq_true, decide_eq_true_eq] at hchk
    obtain ⟨h1, h2, h3, h4, h5⟩ := hchk
    obtain rfl := z_b1 h1
    obtain rfl := z_b1 h3
    obtain ⟨h6, hk⟩ := z_ok_e h
    simp only [Bool.and_eq_true] at h6
    obtain ⟨⟨h6, h7⟩, h8⟩ := h6
    obtain rfl := z_b1 h2
    refine hnw m u H locs pl la pc (st.map (z_cv pl)) rfl (Nat.le_of_ble_eq_true h6) (Nat.le_of_ble_eq_true h7) hl.1 (by have := z_sh_e (pl := pl) _ _ h8; omega) hH hdec h4 h5 (fun H1 locs1 pl1 hH1 hx1 => ?_)
    have hw := hK _ _ _ _ hk (Nat.le_of_ble_eq_true h6) H1 locs1 pl1 la hH1 (z_ls_ext hx1 hvl hl) (fun n v q => (hvl n v q).mono hx1.1) (z_vs.cons (Or.inl ⟨(by decide : 0 < z_cnt 0), Or.inr (Or.inr ⟨rfl, by obtain ⟨⟨L, F, hP, hD, hR⟩, hS, hX⟩ := hH; exact Nat.le_of_lt hR.2.2.2, Nat.lt_succ_self _⟩)⟩) (fun v q => (hvs v q).mono hx1.1))
    rw [List.map_cons, z_st_ext hx1 hvs] at hw
    exact hw
  case ireturn =>
    obtain rfl := z_b1 hchk
    have h : z_ri st rt (fun r => Q r m) := h
    obtain ⟨r, rfl, hr1, hr2, hq⟩ := z_ri_e h
    have := hrt (some r) m u H locs pl la pc hq hu hH hr1 hvs (by rw [hr2]; exact hdec)
    exact this
  case lreturn =>
    obtain rfl := z_b1 hchk
    have h : z_rl st rt (fun r => Q r m) := h
    obtain ⟨r, rfl, hr1, hr2, hq⟩ := z_rl_e h
    have := hrt (some r) m u H locs pl la pc hq hu hH hr1 hvs (by rw [hr2]; exact hdec)
    exact this
  case areturn =>
    obtain rfl := z_b1 hchk
    have h : z_ra st rt (fun r => Q r m) := h
    obtain ⟨r, rfl, hr1, hr2, hq⟩ := z_ra_e h
    have := hrt (some r) m u H locs pl la pc hq hu hH hr1 hvs (by rw [hr2]; exact hdec)
    exact this
  case return_ =>
    obtain rfl := z_b1 hchk
    have h : z_rv st rt (Q none m) := h
    obtain ⟨rfl, rfl, hq⟩ := z_rv_e h
    exact hrt none m u H locs pl la pc hq hu hH rfl hvs hdec
  all_goals exact False.elim h
end Snd2
