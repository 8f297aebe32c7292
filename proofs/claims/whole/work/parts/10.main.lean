/-! Every instruction of the deep semantics, over the machine. -/
section DPU
variable {p : Program} {l : Launch} {e : Env} {R : Room} {s : State} {m : MethodId} {args : Array Value} {below : List Frame} {meth : Method} {c : Code} {Qm : State → Prop}
variable {g : dp_G} {X : dp_X} {b : Nat} {A : Nat → Prop} {y d n0 : Nat} {ad0 : Nat → Nat} {Q : dp_Q}
theorem dp_ec_of {i : Nat} {f : Nat → Prop} (h : dp_new i f) : f (dp_ec i) ∧ dp_ec i ≤ 2 ∧ dp_exk (dp_ec i) = i := by
  unfold dp_new at h
  split at h
  · exact ⟨h, by decide, rfl⟩
  · exact ⟨h, by decide, rfl⟩
  · exact ⟨h, by decide, rfl⟩
  · exact h.elim
theorem dp_outA {ad : Nat → Nat} {k N : Nat} {i : Int32} (h : vp_in i N) : va_rf (dp_out ad k N i.toNatClampNeg) = .ref (ad (k + i.toNatClampNeg)) := by
  have hlt : i.toNatClampNeg < N := Nat.not_le.mp fun q => h (Or.inr q)
  unfold dp_out
  rw [if_pos hlt]
  rfl
set_option maxHeartbeats 4000000 in
theorem dp_step {call : dp_C} {d' : Nat} (C : dp_Cx p l R s m args c g X b A y d) (hdd : d = d' + 1) (hE : dp_En p l e R s m args below meth c Qm g b A y n0 ad0 Q) (hX : dp_Ex p l e R s m args below meth c Qm g b A y n0 ad0 Q) (hN : dp_Nw p l e R s m args below meth c Qm g b A y d n0 ad0 Q)
    (hC : ∀ z as n M o Q', z < 146 → call z as n M o Q' → dp_Mt l g X b A d' z as n M o Q')
    {pc n cc q : Nat} {L : dp_L} {st : List Value} {M : dp_M} {o : Int64}
    (h : dp_wp X call d y Q (dp_KW p l e R s m args below meth c Qm g b A (dp_mL y) n0 ad0) pc L st n cc q M o (dp_tab y pc).1) : dp_KW p l e R s m args below meth c Qm g b A (dp_mL y) n0 ad0 pc L st n cc q M o := by
  have C' := C
  obtain ⟨hx, hb, hml, hown, hts, htr, htab, hd1, hfr, hlo, hRc, hRs, hy, hG⟩ := C
  rcases dp_dec hy pc with e0 | ⟨hd, hl, hj⟩
  · rw [e0] at h
    exact h.elim
  generalize dp_tab y pc = ii at h hd hl hj
  obtain ⟨i, len⟩ := ii
  dsimp only at h hl hj
  cases i with
  | aload_n k =>
    obtain rfl := hl.resolve_left (fun z => by cases z)
    intro h0 ad H locs ls h1 h2 h3 h4 h5 h6
    obtain ⟨x, hx1, hk⟩ := dp_lr_of h
    exact lv_aload_n hx hb hd rfl (h3.2.2 _ _ hx1) (hk h0 ad H locs ls h1 h2 h3 h4 h5 h6)
  | aload k =>
    obtain rfl := hl.resolve_left (fun z => by cases z)
    intro h0 ad H locs ls h1 h2 h3 h4 h5 h6
    obtain ⟨x, hx1, hk⟩ := dp_lr_of h
    exact lv_aload hx hb hd (h3.2.2 _ _ hx1) (hk h0 ad H locs ls h1 h2 h3 h4 h5 h6)
  | iload_n k =>
    obtain rfl := hl.resolve_left (fun z => by cases z)
    intro h0 ad H locs ls h1 h2 h3 h4 h5 h6
    obtain ⟨x, hx1, hk⟩ := dp_li_of h
    exact lv_iload_n hx hb hd rfl (h3.2.2 _ _ hx1) (hk h0 ad H locs ls h1 h2 h3 h4 h5 h6)
  | iload k =>
    obtain rfl := hl.resolve_left (fun z => by cases z)
    intro h0 ad H locs ls h1 h2 h3 h4 h5 h6
    obtain ⟨x, hx1, hk⟩ := dp_li_of h
    exact lv_iload hx hb hd (h3.2.2 _ _ hx1) (hk h0 ad H locs ls h1 h2 h3 h4 h5 h6)
  | lload_n k =>
    obtain rfl := hl.resolve_left (fun z => by cases z)
    intro h0 ad H locs ls h1 h2 h3 h4 h5 h6
    obtain ⟨x, hx1, hk⟩ := dp_lj_of h
    exact lv_lload_n hx hb hd rfl (h3.2.2 _ _ hx1) (hk h0 ad H locs ls h1 h2 h3 h4 h5 h6)
  | lload k =>
    obtain rfl := hl.resolve_left (fun z => by cases z)
    intro h0 ad H locs ls h1 h2 h3 h4 h5 h6
    obtain ⟨x, hx1, hk⟩ := dp_lj_of h
    exact lv_lload hx hb hd (h3.2.2 _ _ hx1) (hk h0 ad H locs ls h1 h2 h3 h4 h5 h6)
  | dload k =>
    obtain rfl := hl.resolve_left (fun z => by cases z)
    intro h0 ad H locs ls h1 h2 h3 h4 h5 h6
    obtain ⟨x, hx1, hk⟩ := dp_ld_of h
    exact lv_dload hx hb hd (h3.2.2 _ _ hx1) (hk h0 ad H locs ls h1 h2 h3 h4 h5 h6)
  | iconst v =>
    obtain rfl := hl.resolve_left (fun z => by cases z)
    intro h0 ad H locs ls h1 h2 h3 h4 h5 h6
    exact lv_iconst hx hb hd rfl (h h0 ad H locs ls h1 h2 h3 h4 h5 h6)
  | bipush v =>
    obtain rfl := hl.resolve_left (fun z => by cases z)
    intro h0 ad H locs ls h1 h2 h3 h4 h5 h6
    exact lv_bipush hx hb hd rfl (h h0 ad H locs ls h1 h2 h3 h4 h5 h6)
  | sipush v =>
    obtain rfl := hl.resolve_left (fun z => by cases z)
    intro h0 ad H locs ls h1 h2 h3 h4 h5 h6
    exact lv_sipush hx hb hd rfl (h h0 ad H locs ls h1 h2 h3 h4 h5 h6)
  | ldc_w i =>
    obtain rfl := hl.resolve_left (fun z => by cases z)
    intro h0 ad H locs ls h1 h2 h3 h4 h5 h6
    obtain ⟨v, hv, hk⟩ := dp_opt_of h
    exact lv_ldcw hx hb hown (hts _ (dp_wd_ci (dp_lo_in _ _ _ _ hv))) hd (hk h0 ad H locs ls h1 h2 h3 h4 h5 h6)
  | ldc2_w i =>
    obtain rfl := hl.resolve_left (fun z => by cases z)
    intro h0 ad H locs ls h1 h2 h3 h4 h5 h6
    obtain ⟨v, hv, hk⟩ := dp_opt_of h
    exact lv_ldc2 hx hb hown (hts _ (dp_wd_cl (dp_lo_in _ _ _ _ hv))) hd (hk h0 ad H locs ls h1 h2 h3 h4 h5 h6)
  | dconst v =>
    obtain rfl := hl.resolve_left (fun z => by cases z)
    intro h0 ad H locs ls h1 h2 h3 h4 h5 h6
    obtain ⟨rfl, hk⟩ := h
    exact lv_dconst0 hx hb hd (hk h0 ad H locs ls h1 h2 h3 h4 h5 h6)
  | istore_n k =>
    obtain rfl := hl.resolve_left (fun z => by cases z)
    intro h0 ad H locs ls h1 h2 h3 h4 h5 h6
    obtain ⟨x, r, rfl, hk⟩ := dp_pi_of h
    exact lv_istore_n hx hb hd rfl h3.has (of_decide_eq_true hj) rfl (fun ls' hl' => hk h0 ad H locs ls' h1 h2 (dp_LH.s1 rfl hl') h4 h5 h6)
  | istore k =>
    obtain rfl := hl.resolve_left (fun z => by cases z)
    intro h0 ad H locs ls h1 h2 h3 h4 h5 h6
    obtain ⟨x, r, rfl, hk⟩ := dp_pi_of h
    exact lv_istore hx hb hd h3.has (of_decide_eq_true hj) rfl (fun ls' hl' => hk h0 ad H locs ls' h1 h2 (dp_LH.s1 rfl hl') h4 h5 h6)
  | lstore_n k =>
    obtain rfl := hl.resolve_left (fun z => by cases z)
    intro h0 ad H locs ls h1 h2 h3 h4 h5 h6
    obtain ⟨x, r, rfl, hk⟩ := dp_pj_of h
    exact lv_lstore_n hx hb hd rfl h3.has (of_decide_eq_true hj) rfl (fun ls' hl' => hk h0 ad H locs ls' h1 h2 (dp_LH.s2 rfl hl') h4 h5 h6)
  | lstore k =>
    obtain rfl := hl.resolve_left (fun z => by cases z)
    intro h0 ad H locs ls h1 h2 h3 h4 h5 h6
    obtain ⟨x, r, rfl, hk⟩ := dp_pj_of h
    exact lv_lstore hx hb hd h3.has (of_decide_eq_true hj) rfl (fun ls' hl' => hk h0 ad H locs ls' h1 h2 (dp_LH.s2 rfl hl') h4 h5 h6)
  | dstore k =>
    obtain rfl := hl.resolve_left (fun z => by cases z)
    intro h0 ad H locs ls h1 h2 h3 h4 h5 h6
    obtain ⟨x, r, rfl, hk⟩ := dp_pd_of h
    exact lv_dstore hx hb hd h3.has (of_decide_eq_true hj) rfl (fun ls' hl' => hk h0 ad H locs ls' h1 h2 (dp_LH.s2 rfl hl') h4 h5 h6)
  | astore_n k =>
    obtain rfl := hl.resolve_left (fun z => by cases z)
    intro h0 ad H locs ls h1 h2 h3 h4 h5 h6
    obtain ⟨x, r, rfl, hk⟩ := dp_pr_of h
    exact lv_astore_n hx hb hd rfl h3.has (of_decide_eq_true hj) rfl (fun ls' hl' => hk h0 ad H locs ls' h1 h2 (dp_LH.s1 rfl hl') h4 h5 h6)
  | astore k =>
    obtain rfl := hl.resolve_left (fun z => by cases z)
    intro h0 ad H locs ls h1 h2 h3 h4 h5 h6
    obtain ⟨x, r, rfl, hk⟩ := dp_pr_of h
    exact lv_astore hx hb hd h3.has (of_decide_eq_true hj) rfl (fun ls' hl' => hk h0 ad H locs ls' h1 h2 (dp_LH.s1 rfl hl') h4 h5 h6)
  | iinc i v =>
    obtain rfl := hl.resolve_left (fun z => by cases z)
    intro h0 ad H locs ls h1 h2 h3 h4 h5 h6
    obtain ⟨x, hx1, hk⟩ := dp_li_of h
    obtain ⟨k9, hk9⟩ := List.getElem?_of_mem (dp_as_in ad L 0 i _ hx1)
    rw [Nat.zero_add] at hk9
    exact lv_iinc hx hb hd h3.has hk9 rfl (of_decide_eq_true hj) rfl (fun ls' hl' => hk h0 ad H locs ls' h1 h2 (dp_LH.s1 rfl hl') h4 h5 h6)
  | iadd =>
    obtain rfl := hl.resolve_left (fun z => by cases z)
    intro h0 ad H locs ls h1 h2 h3 h4 h5 h6
    obtain ⟨x, r, rfl, k1⟩ := dp_pi_of h
    obtain ⟨z, r, rfl, hk⟩ := dp_pi_of k1
    exact lv_iadd hx hb hd (hk h0 ad H locs ls h1 h2 h3 h4 h5 h6)
  | isub =>
    obtain rfl := hl.resolve_left (fun z => by cases z)
    intro h0 ad H locs ls h1 h2 h3 h4 h5 h6
    obtain ⟨x, r, rfl, k1⟩ := dp_pi_of h
    obtain ⟨z, r, rfl, hk⟩ := dp_pi_of k1
    exact lv_isub hx hb hd (hk h0 ad H locs ls h1 h2 h3 h4 h5 h6)
  | imul =>
    obtain rfl := hl.resolve_left (fun z => by cases z)
    intro h0 ad H locs ls h1 h2 h3 h4 h5 h6
    obtain ⟨x, r, rfl, k1⟩ := dp_pi_of h
    obtain ⟨z, r, rfl, hk⟩ := dp_pi_of k1
    exact lv_imul hx hb hd (hk h0 ad H locs ls h1 h2 h3 h4 h5 h6)
  | iand =>
    obtain rfl := hl.resolve_left (fun z => by cases z)
    intro h0 ad H locs ls h1 h2 h3 h4 h5 h6
    obtain ⟨x, r, rfl, k1⟩ := dp_pi_of h
    obtain ⟨z, r, rfl, hk⟩ := dp_pi_of k1
    exact lv_iand hx hb hd (hk h0 ad H locs ls h1 h2 h3 h4 h5 h6)
  | ior =>
    obtain rfl := hl.resolve_left (fun z => by cases z)
    intro h0 ad H locs ls h1 h2 h3 h4 h5 h6
    obtain ⟨x, r, rfl, k1⟩ := dp_pi_of h
    obtain ⟨z, r, rfl, hk⟩ := dp_pi_of k1
    exact lv_ior hx hb hd (hk h0 ad H locs ls h1 h2 h3 h4 h5 h6)
  | ishl =>
    obtain rfl := hl.resolve_left (fun z => by cases z)
    intro h0 ad H locs ls h1 h2 h3 h4 h5 h6
    obtain ⟨x, r, rfl, k1⟩ := dp_pi_of h
    obtain ⟨z, r, rfl, hk⟩ := dp_pi_of k1
    exact lv_ishl hx hb hd (hk h0 ad H locs ls h1 h2 h3 h4 h5 h6)
  | ishr =>
    obtain rfl := hl.resolve_left (fun z => by cases z)
    intro h0 ad H locs ls h1 h2 h3 h4 h5 h6
    obtain ⟨x, r, rfl, k1⟩ := dp_pi_of h
    obtain ⟨z, r, rfl, hk⟩ := dp_pi_of k1
    exact lv_ishr hx hb hd (hk h0 ad H locs ls h1 h2 h3 h4 h5 h6)
  | iushr =>
    obtain rfl := hl.resolve_left (fun z => by cases z)
    intro h0 ad H locs ls h1 h2 h3 h4 h5 h6
    obtain ⟨x, r, rfl, k1⟩ := dp_pi_of h
    obtain ⟨z, r, rfl, hk⟩ := dp_pi_of k1
    exact lv_iushr hx hb hd rfl (hk h0 ad H locs ls h1 h2 h3 h4 h5 h6)
  | idiv =>
    obtain rfl := hl.resolve_left (fun z => by cases z)
    intro h0 ad H locs ls h1 h2 h3 h4 h5 h6
    obtain ⟨x, r, rfl, k1⟩ := dp_pi_of h
    obtain ⟨z, r, rfl, hne, hk⟩ := dp_pi_of k1
    exact lv_idiv hx hb hd hne (hk h0 ad H locs ls h1 h2 h3 h4 h5 h6)
  | i2l =>
    obtain rfl := hl.resolve_left (fun z => by cases z)
    intro h0 ad H locs ls h1 h2 h3 h4 h5 h6
    obtain ⟨x, r, rfl, hk⟩ := dp_pi_of h
    exact lv_i2l hx hb hd rfl (hk h0 ad H locs ls h1 h2 h3 h4 h5 h6)
  | i2d =>
    obtain rfl := hl.resolve_left (fun z => by cases z)
    intro h0 ad H locs ls h1 h2 h3 h4 h5 h6
    obtain ⟨x, r, rfl, hk⟩ := dp_pi_of h
    exact lv_i2d hx hb hd (hk h0 ad H locs ls h1 h2 h3 h4 h5 h6)
  | ladd =>
    obtain rfl := hl.resolve_left (fun z => by cases z)
    intro h0 ad H locs ls h1 h2 h3 h4 h5 h6
    obtain ⟨x, r, rfl, k1⟩ := dp_pj_of h
    obtain ⟨z, r, rfl, hk⟩ := dp_pj_of k1
    exact lv_ladd hx hb hd (hk h0 ad H locs ls h1 h2 h3 h4 h5 h6)
  | lmul =>
    obtain rfl := hl.resolve_left (fun z => by cases z)
    intro h0 ad H locs ls h1 h2 h3 h4 h5 h6
    obtain ⟨x, r, rfl, k1⟩ := dp_pj_of h
    obtain ⟨z, r, rfl, hk⟩ := dp_pj_of k1
    exact lv_lmul hx hb hd (hk h0 ad H locs ls h1 h2 h3 h4 h5 h6)
  | lcmp =>
    obtain rfl := hl.resolve_left (fun z => by cases z)
    intro h0 ad H locs ls h1 h2 h3 h4 h5 h6
    obtain ⟨x, r, rfl, k1⟩ := dp_pj_of h
    obtain ⟨z, r, rfl, hk⟩ := dp_pj_of k1
    exact W.lcmp hx hb hd (hk h0 ad H locs ls h1 h2 h3 h4 h5 h6)
  | ddiv =>
    obtain rfl := hl.resolve_left (fun z => by cases z)
    intro h0 ad H locs ls h1 h2 h3 h4 h5 h6
    obtain ⟨x, r, rfl, k1⟩ := dp_pd_of h
    obtain ⟨z, r, rfl, hne, hk⟩ := dp_pd_of k1
    exact lv_ddiv hx hb hd hne (hk h0 ad H locs ls h1 h2 h3 h4 h5 h6)
  | dcmp w =>
    obtain rfl := hl.resolve_left (fun z => by cases z)
    intro h0 ad H locs ls h1 h2 h3 h4 h5 h6
    obtain ⟨x, r, rfl, k1⟩ := dp_pd_of h
    obtain ⟨z, r, rfl, hk⟩ := dp_pd_of k1
    exact lv_dcmp hx hb hd (hk h0 ad H locs ls h1 h2 h3 h4 h5 h6)
  | ifCond cnd off =>
    obtain rfl := hl.resolve_left (fun z => by cases z)
    intro h0 ad H locs ls h1 h2 h3 h4 h5 h6
    cases cnd with
    | eq =>
      obtain ⟨x, r, rfl, k1⟩ := dp_pi_of h
      exact lv_if_eq hx hb hd (dp_jt_eq (of_decide_eq_true hj)) (fun w => k1.1 w h0 ad H locs ls h1 h2 h3 h4 h5 h6) (fun w => k1.2 w h0 ad H locs ls h1 h2 h3 h4 h5 h6)
    | ne =>
      obtain ⟨x, r, rfl, k1⟩ := dp_pi_of h
      exact lv_if_ne hx hb hd (dp_jt_eq (of_decide_eq_true hj)) (fun w => k1.2 w h0 ad H locs ls h1 h2 h3 h4 h5 h6) (fun w => k1.1 w h0 ad H locs ls h1 h2 h3 h4 h5 h6)
    | lt =>
      obtain ⟨x, r, rfl, k1⟩ := dp_pi_of h
      exact lv_if_lt hx hb hd (dp_jt_eq (of_decide_eq_true hj)) (fun w => k1.1 w h0 ad H locs ls h1 h2 h3 h4 h5 h6) (fun w => k1.2 w h0 ad H locs ls h1 h2 h3 h4 h5 h6)
    | ge =>
      obtain ⟨x, r, rfl, k1⟩ := dp_pi_of h
      exact lv_if_ge hx hb hd (dp_jt_eq (of_decide_eq_true hj)) (fun w => k1.2 (Int32.not_lt.mpr w) h0 ad H locs ls h1 h2 h3 h4 h5 h6) (fun w => k1.1 (Int32.not_le.mp w) h0 ad H locs ls h1 h2 h3 h4 h5 h6)
    | gt =>
      obtain ⟨x, r, rfl, k1⟩ := dp_pi_of h
      exact lv_if_gt hx hb hd (dp_jt_eq (of_decide_eq_true hj)) (fun w => k1.1 w h0 ad H locs ls h1 h2 h3 h4 h5 h6) (fun w => k1.2 w h0 ad H locs ls h1 h2 h3 h4 h5 h6)
    | le =>
      obtain ⟨x, r, rfl, k1⟩ := dp_pi_of h
      exact lv_if_le hx hb hd (dp_jt_eq (of_decide_eq_true hj)) (fun w => k1.2 (Int32.not_lt.mpr w) h0 ad H locs ls h1 h2 h3 h4 h5 h6) (fun w => k1.1 (Int32.not_le.mp w) h0 ad H locs ls h1 h2 h3 h4 h5 h6)
  | if_icmp cnd off =>
    obtain rfl := hl.resolve_left (fun z => by cases z)
    intro h0 ad H locs ls h1 h2 h3 h4 h5 h6
    cases cnd with
    | eq =>
      obtain ⟨x, r, rfl, k1⟩ := dp_pi_of h
      obtain ⟨z, r, rfl, k2⟩ := dp_pi_of k1
      exact lv_icmp_eq hx hb hd (dp_jt_eq (of_decide_eq_true hj)) (fun w => k2.1 w h0 ad H locs ls h1 h2 h3 h4 h5 h6) (fun w => k2.2 w h0 ad H locs ls h1 h2 h3 h4 h5 h6)
    | ne =>
      obtain ⟨x, r, rfl, k1⟩ := dp_pi_of h
      obtain ⟨z, r, rfl, k2⟩ := dp_pi_of k1
      exact lv_icmp_ne hx hb hd (dp_jt_eq (of_decide_eq_true hj)) (fun w => k2.2 w h0 ad H locs ls h1 h2 h3 h4 h5 h6) (fun w => k2.1 w h0 ad H locs ls h1 h2 h3 h4 h5 h6)
    | lt =>
      obtain ⟨x, r, rfl, k1⟩ := dp_pi_of h
      obtain ⟨z, r, rfl, k2⟩ := dp_pi_of k1
      exact lv_icmp_lt hx hb hd (dp_jt_eq (of_decide_eq_true hj)) (fun w => k2.1 w h0 ad H locs ls h1 h2 h3 h4 h5 h6) (fun w => k2.2 w h0 ad H locs ls h1 h2 h3 h4 h5 h6)
    | ge =>
      obtain ⟨x, r, rfl, k1⟩ := dp_pi_of h
      obtain ⟨z, r, rfl, k2⟩ := dp_pi_of k1
      exact lv_icmp_ge hx hb hd (dp_jt_eq (of_decide_eq_true hj)) (fun w => k2.2 (Int32.not_lt.mpr w) h0 ad H locs ls h1 h2 h3 h4 h5 h6) (fun w => k2.1 (Int32.not_le.mp w) h0 ad H locs ls h1 h2 h3 h4 h5 h6)
    | gt =>
      obtain ⟨x, r, rfl, k1⟩ := dp_pi_of h
      obtain ⟨z, r, rfl, k2⟩ := dp_pi_of k1
      exact lv_icmp_gt hx hb hd (dp_jt_eq (of_decide_eq_true hj)) (fun w => k2.1 w h0 ad H locs ls h1 h2 h3 h4 h5 h6) (fun w => k2.2 w h0 ad H locs ls h1 h2 h3 h4 h5 h6)
    | le =>
      obtain ⟨x, r, rfl, k1⟩ := dp_pi_of h
      obtain ⟨z, r, rfl, k2⟩ := dp_pi_of k1
      exact lv_icmp_le hx hb hd (dp_jt_eq (of_decide_eq_true hj)) (fun w => k2.2 (Int32.not_lt.mpr w) h0 ad H locs ls h1 h2 h3 h4 h5 h6) (fun w => k2.1 (Int32.not_le.mp w) h0 ad H locs ls h1 h2 h3 h4 h5 h6)
  | goto off =>
    obtain rfl := hl.resolve_left (fun z => by cases z)
    intro h0 ad H locs ls h1 h2 h3 h4 h5 h6
    exact lv_goto hx hb hd (dp_jt_eq (of_decide_eq_true hj)) (h h0 ad H locs ls h1 h2 h3 h4 h5 h6)
  | tableswitch dflt lo hi offs =>
    intro h0 ad H locs ls h1 h2 h3 h4 h5 h6
    obtain ⟨x, r, rfl, k1, k2⟩ := dp_pi_of h
    simp only [dp_jok, Bool.and_eq_true, decide_eq_true_eq] at hj
    obtain ⟨⟨j1, j2⟩, j3⟩ := hj
    by_cases hlo9 : x.toInt < lo ∨ hi < x.toInt
    · exact lv_tableOut hx hb hd hlo9 (dp_jt_eq j1) (k1 hlo9 h0 ad H locs ls h1 h2 h3 h4 h5 h6)
    · obtain ⟨n1, n2⟩ := not_or.mp hlo9
      obtain ⟨off, f1, f2⟩ := dp_ts_of (x.toInt - lo).toNat k2 (by omega) (by omega)
      have f3 : offs[(x.toInt - lo).toNat]? = some off := by rw [← Array.getElem?_toList]; exact f1
      have f4 := List.all_eq_true.mp j2 off (List.mem_of_getElem? f1)
      exact lv_tableIn hx hb hd n1 n2 f3 (dp_jt_eq (of_decide_eq_true f4)) (f2 h0 ad H locs ls h1 h2 h3 h4 h5 h6)
  | getfield i =>
    obtain rfl := hl.resolve_left (fun z => by cases z)
    intro h0 ad H locs ls h1 h2 h3 h4 h5 h6
    obtain ⟨hh, r, rfl, hhn, k1⟩ := dp_pr_of h
    obtain ⟨ci, k, fs, v, g1, g2, g3, g4⟩ := dp_get_of k1
    have hm := dp_fld_in g1
    obtain ⟨f1, f2, f3, f4⟩ := dp_fl_ok _ hm
    have hcl := dp_clT f2
    have hlk := hts _ (dp_wd_field hm)
    unfold dp_fieldW at hlk
    rw [f4] at hlk
    refine va_get (C := (vwCl.getD ci (RX0, TX0, 5)).1) (T := (vwCl.getD ci (RX0, TX0, 5)).2.1) (N := (vwCl.getD ci (RX0, TX0, 5)).2.2) (ref := (vwCl.getD ci (RX0, TX0, 5)).1) (v := dp_cv ad v) hx hb hts (dp_wd_lays hcl) hown hG.1 h4 hh (by rw [dp_wl_at hhn, dp_cel_O g2]) hcl k f3 hlk (fun x9 h9 => by rw [← f4]; exact h9) (by rw [List.getElem?_map, dp_gtv_get _ _ _ g3]; rfl) hd ?_
    exact g4 h0 ad H locs ls h1 h2 h3 h4 h5 h6
  | putfield i =>
    obtain rfl := hl.resolve_left (fun z => by cases z)
    intro h0 ad H locs ls h1 h2 h3 h4 h5 h6
    obtain ⟨x, r, rfl, k0⟩ := dp_pi_of h
    obtain ⟨hh, r, rfl, hhn, k1⟩ := dp_pr_of k0
    obtain ⟨ci, k, fs, w, g1, g2, g3, g4⟩ := dp_put_of k1
    have hm := dp_fld_in g1
    obtain ⟨f1, f2, f3, f4⟩ := dp_fl_ok _ hm
    have hcl := dp_clT f2
    obtain ⟨ty0, t1, t2⟩ := dp_clF hcl
    obtain ⟨q1, q2, q3, q4, q5⟩ := dp_objint g2 g3
    have hlk := hts _ (dp_wd_field hm)
    unfold dp_fieldW at hlk
    rw [f4] at hlk
    refine va_put (C := (vwCl.getD ci (RX0, TX0, 5)).1) (T := (vwCl.getD ci (RX0, TX0, 5)).2.1) (N := (vwCl.getD ci (RX0, TX0, 5)).2.2) (ref := (vwCl.getD ci (RX0, TX0, 5)).1) (v := .int x) (ty := .int) hx hb hts (dp_wd_lays hcl) ty0 t1 t2 hown hG.1 h4 h5 h6 hh (by rw [dp_wl_at hhn, dp_cel_O g2]) hcl k f3 hlk (fun x9 h9 => by rw [← f4]; exact h9) q3 q4 rfl rfl (by rw [List.length_map]; exact q5) hd (fun H1 locs1 e1 e2 e3 => ?_)
    rw [dp_set_F g2 g3] at e1 e2
    exact g4 h0 ad H1 locs1 ls h1 h2 h3 e1 e2 e3
  | iaload =>
    obtain rfl := hl.resolve_left (fun z => by cases z)
    intro h0 ad H locs ls h1 h2 h3 h4 h5 h6
    obtain ⟨i, r, rfl, k1⟩ := dp_pi_of h
    obtain ⟨hh, r, rfl, k2⟩ := dp_pr_of k1
    rcases k2 with ⟨rfl, q1, q2⟩ | ⟨q0, q1, q2, q3, q4⟩
    · have hX9 := hG.2.2.2
      have := va_sld hx hb hX9.1 hX9.2.1 hX9.2.2.1 h6 q1 hd (q2 h0 ad H locs ls h1 h2 h3 h4 h5 h6)
      rw [← h2] at this
      exact this
    · exact va_iald hx hb hG.1 h4 hh 0 (dp_wl_A q2 q1) rfl q3 hd (q4 h0 ad H locs ls h1 h2 h3 h4 h5 h6)
  | iastore =>
    obtain rfl := hl.resolve_left (fun z => by cases z)
    intro h0 ad H locs ls h1 h2 h3 h4 h5 h6
    obtain ⟨x, r, rfl, k0⟩ := dp_pi_of h
    obtain ⟨i, r, rfl, k1⟩ := dp_pi_of k0
    obtain ⟨hh, r, rfl, q1, q2, q3, q4⟩ := dp_pr_of k1
    refine va_iast hx hb hG.1 h4 h5 h6 hh 0 (dp_wl_A q2 q1) rfl q3 hd (fun H1 locs1 e1 e2 e3 => ?_)
    rw [dp_set_A q1, dp_up_row] at e1 e2
    exact q4 h0 ad H1 locs1 ls h1 h2 h3 e1 e2 e3
  | laload =>
    obtain rfl := hl.resolve_left (fun z => by cases z)
    intro h0 ad H locs ls h1 h2 h3 h4 h5 h6
    obtain ⟨i, r, rfl, k1⟩ := dp_pi_of h
    obtain ⟨hh, r, rfl, rfl, q2, q3, q4⟩ := dp_pr_of k1
    have hz : i.toNatClampNeg = 0 := by have := Nat.not_le.mp (fun z => q3 (Or.inr z)); omega
    refine va_lald (f := fun j => if j = 0 then o else 0) hx hb hG.1 h4 26 1 (dp_wl_at q2) rfl q3 hd ?_
    rw [hz]
    exact q4 h0 ad H locs ls h1 h2 h3 h4 h5 h6
  | lastore =>
    obtain rfl := hl.resolve_left (fun z => by cases z)
    intro h0 ad H locs ls h1 h2 h3 h4 h5 h6
    obtain ⟨x, r, rfl, k0⟩ := dp_pj_of h
    obtain ⟨i, r, rfl, k1⟩ := dp_pi_of k0
    obtain ⟨hh, r, rfl, rfl, q2, q3, q4⟩ := dp_pr_of k1
    refine va_last hx hb hG.1 h4 h5 h6 26 1 (f := fun j => if j = 0 then o else 0) (dp_wl_at q2) rfl q3 hd (fun H1 locs1 e1 e2 e3 => ?_)
    have hz : i.toNatClampNeg = 0 := by have := Nat.not_le.mp (fun z => q3 (Or.inr z)); omega
    rw [dp_set_O (x := x) (by funext j; rw [hz]; by_cases hj : j = 0 <;> simp [vp_updL, hj])] at e1 e2
    exact q4 h0 ad H1 locs1 ls h1 h2 h3 e1 e2 e3
  | aaload =>
    obtain rfl := hl.resolve_left (fun z => by cases z)
    intro h0 ad H locs ls h1 h2 h3 h4 h5 h6
    obtain ⟨i, r, rfl, k1⟩ := dp_pi_of h
    obtain ⟨hh, r, rfl, hhn, k2⟩ := dp_pr_of k1
    unfold dp_aal at k2
    split at k2
    · exact dp_aald hx hb hG.1 h4 7 2 (dp_wl_at hhn) rfl k2.1 hd (by rw [dp_outA k2.1]; exact k2.2 h0 ad H locs ls h1 h2 h3 h4 h5 h6)
    · exact dp_aald hx hb hG.1 h4 9 2 (dp_wl_at hhn) rfl k2.1 hd (by rw [dp_outA k2.1]; exact k2.2 h0 ad H locs ls h1 h2 h3 h4 h5 h6)
    · exact dp_aald hx hb hG.1 h4 11 2 (dp_wl_at hhn) rfl k2.1 hd (by rw [dp_outA k2.1]; exact k2.2 h0 ad H locs ls h1 h2 h3 h4 h5 h6)
    · exact k2.elim
  | arraylength =>
    obtain rfl := hl.resolve_left (fun z => by cases z)
    intro h0 ad H locs ls h1 h2 h3 h4 h5 h6
    obtain ⟨hh, r, rfl, k2⟩ := dp_pr_of h
    rcases k2 with ⟨rfl, q2⟩ | ⟨q0, q1, q2, q4⟩
    · have hX9 := hG.2.2.2
      have := va_slen hx hb hX9.1 hX9.2.1 hX9.2.2.1 h6 hd (q2 h0 ad H locs ls h1 h2 h3 h4 h5 h6)
      rw [← h2] at this
      exact this
    · exact va_alen hx hb hG.1 h4 hh 0 (dp_wl_A q2 q1) rfl rfl hd (q4 h0 ad H locs ls h1 h2 h3 h4 h5 h6)
  | dup =>
    obtain rfl := hl.resolve_left (fun z => by cases z)
    intro h0 ad H locs ls h1 h2 h3 h4 h5 h6
    obtain ⟨v, r, rfl, q1, q2⟩ := dp_p1_of h
    exact lv_dup hx hb hd (by rw [dp_cv_cat]; exact q1) (q2 h0 ad H locs ls h1 h2 h3 h4 h5 h6)
  | dup2 =>
    obtain rfl := hl.resolve_left (fun z => by cases z)
    intro h0 ad H locs ls h1 h2 h3 h4 h5 h6
    obtain ⟨v, r, rfl, k1⟩ := dp_p1_of h
    obtain ⟨w, r, rfl, q1, q2, q3⟩ := dp_p1_of k1
    exact lv_dup2_11 hx hb hd (by rw [dp_cv_cat]; exact q1) (by rw [dp_cv_cat]; exact q2) (q3 h0 ad H locs ls h1 h2 h3 h4 h5 h6)
  | pop =>
    obtain rfl := hl.resolve_left (fun z => by cases z)
    intro h0 ad H locs ls h1 h2 h3 h4 h5 h6
    obtain ⟨v, r, rfl, q1, q2⟩ := dp_p1_of h
    exact lv_pop hx hb hd (by rw [dp_cv_cat]; exact q1) (q2 h0 ad H locs ls h1 h2 h3 h4 h5 h6)
  | return_ =>
    obtain rfl := hl.resolve_left (fun z => by cases z)
    intro h0 ad H locs ls h1 h2 h3 h4 h5 h6
    obtain ⟨rfl, q1, q2, q3, q4⟩ := h
    exact hE none pc n cc q M o ad H locs ls h0.1 h1 h4 h5 h6 (Or.inl ⟨hd, rfl, q1⟩) q2 q3 q4
  | ireturn =>
    obtain rfl := hl.resolve_left (fun z => by cases z)
    intro h0 ad H locs ls h1 h2 h3 h4 h5 h6
    obtain ⟨x, r, rfl, rfl, q1, q2, q3, q4⟩ := dp_pi_of h
    exact hE (some (.int x)) pc n cc q M o ad H locs ls h0.1 h1 h4 h5 h6 (Or.inr (Or.inl ⟨x, hd, rfl, q1⟩)) q2 q3 q4
  | lreturn =>
    obtain rfl := hl.resolve_left (fun z => by cases z)
    intro h0 ad H locs ls h1 h2 h3 h4 h5 h6
    obtain ⟨x, r, rfl, rfl, q1, q2, q3, q4⟩ := dp_pj_of h
    exact hE (some (.long x)) pc n cc q M o ad H locs ls h0.1 h1 h4 h5 h6 (Or.inr (Or.inr (Or.inl ⟨x, hd, rfl, q1⟩))) q2 q3 q4
  | dreturn =>
    obtain rfl := hl.resolve_left (fun z => by cases z)
    intro h0 ad H locs ls h1 h2 h3 h4 h5 h6
    obtain ⟨x, r, rfl, rfl, q1, q2, q3, q4⟩ := dp_pd_of h
    exact hE (some (.double x)) pc n cc q M o ad H locs ls h0.1 h1 h4 h5 h6 (Or.inr (Or.inr (Or.inr ⟨x, hd, rfl, q1⟩))) q2 q3 q4
  | checkcast i =>
    obtain rfl := hl.resolve_left (fun z => by cases z)
    intro h0 ad H locs ls h1 h2 h3 h4 h5 h6
    obtain ⟨hh, r, rfl, rfl, q1, q2, q3, q4⟩ := dp_pr_of h
    have hw := hts _ (dp_wd_x0 12 rfl)
    rw [q1] at hown
    exact va_castA hx hb hown hw h4 hh (dp_wl_A q3 q2) (hG.1.2 0 _ rfl).2 hd (q4 h0 ad H locs ls h1 h2 h3 h4 h5 h6)
  | invokevirtual i =>
    obtain rfl := hl.resolve_left (fun z => by cases z)
    rcases h with h | ⟨ho, h⟩
    · exact dp_inv_ok C' hdd hX hC (sb := false) hd h
    · exact dp_cln_ok C' hd ho h
  | invokestatic i =>
    obtain rfl := hl.resolve_left (fun z => by cases z)
    rcases h with h | h
    · exact dp_inv_ok C' hdd hX hC (sb := true) hd h
    · exact dp_natw_ok C' hd h
  | new i =>
    obtain rfl := hl.resolve_left (fun z => by cases z)
    intro h0 ad H locs ls h1 h2 h3 h4 h5 h6
    obtain ⟨ho, h⟩ := h
    obtain ⟨q1, q2, q3⟩ := dp_ec_of h
    simp only [dp_jok, Bool.or_eq_true, beq_iff_eq] at hj
    rcases hj with hj | hj
    · omega
    · exact hN i pc n cc q M o ad H locs ls st h0.1 h1 h3.1 h4 h5 h6 hd hj ho q2 q3 q1
  | _ => exact h.elim
end DPU
