/-! Every instruction of the deep semantics, over the machine. -/
section DPU
variable {p : Program} {l : Launch} {e : Env} {R : Room} {s : State} {m : MethodId} {args : Array Value} {below : List Frame} {meth : Method} {c : Code} {Qm : State → Prop}
variable {g : dp_G} {X : dp_X} {b : Nat} {A : Nat → Prop} {y d : Nat} {ad : Nat → Nat} {Q : dp_Q}
theorem dp_ec_of {i : Nat} {f : Nat → Prop} (h : dp_new i f) : f (dp_ec i) ∧ dp_ec i ≤ 2 ∧ dp_exk (dp_ec i) = i := by
  unfold dp_new at h
  split at h
  · exact ⟨h, by decide, rfl⟩
  · exact ⟨h, by decide, rfl⟩
  · exact ⟨h, by decide, rfl⟩
  · exact h.elim
theorem dp_outA {ad : Nat → Nat} {k N : Nat} {i : Int32} (h : vp_in i N) : va_rf (dp_out ad k N i.toNatClampNeg) = .ref (ad (k + i.toNatClampNeg)) := by
  have hlt : i.toNatClampNeg < N := Nat.not_le.mp fun q => h (Or.inr q)
  unfold dp_out
  rw [if_pos hlt]
  rfl
theorem dp_an_of {w i : Nat} {b9 : Bool} {args : Array Value} {s : State} (h : dp_an w i = some b9) (hts : ∀ (k : Nat) (w : Cond), dp_x0[k]? = some w → w.before args s = true) : (b9 = false ∧ ((Cond.classLink (dp_o w) i "[I").before args s = true)) ∨ (b9 = true ∧ ((Cond.classLink (dp_o w) i RX4).before args s = true)) := by
  unfold dp_an at h
  split at h
  · rename_i hc
    cases h
    exact Or.inl ⟨rfl, by rw [hc.1, hc.2]; exact hts 14 _ rfl⟩
  · split at h
    · rename_i hc
      cases h
      exact Or.inr ⟨rfl, by rw [hc.1, hc.2]; exact hts 12 _ rfl⟩
    · split at h
      · rename_i hc
        cases h
        exact Or.inl ⟨rfl, by rw [hc.1, hc.2]; exact hts 15 _ rfl⟩
      · split at h
        · rename_i hc
          cases h
          exact Or.inr ⟨rfl, by rw [hc.1, hc.2]; exact hts 16 _ rfl⟩
        · cases h
theorem dp_nw_of {w i ci : Nat} (h : dp_nw w i = some ci) : (w = 6 ∧ i = 10 ∧ ci = 5) ∨ (w = 6 ∧ i = 46 ∧ ci = 4) := by
  unfold dp_nw at h
  split at h
  · rename_i hc
    cases h
    exact Or.inl ⟨hc.1, hc.2, rfl⟩
  · split at h
    · rename_i hc
      cases h
      exact Or.inr ⟨hc.1, hc.2, rfl⟩
    · cases h
set_option maxHeartbeats 4000000 in
theorem dp_step {call : dp_C} {d' : Nat} (C : dp_Cx p l R s m args c g X b A y d) (had : dp_adk ad b) (hdd : d = d' + 1) (hE : dp_En p l e R s m args below meth c Qm g A y ad Q) (hX : dp_Ex p l e R s m args below meth c Qm g A y ad Q) (hN : dp_Nw p l e R s m args below meth c Qm g A y d ad Q)
    (hC : ∀ z as n M o Q', z < 77 → call z as n M o Q' → dp_Mt l g X b A d' z as n M o Q')
    {pc n cc q : Nat} {L : dp_L} {st : List Value} {M : dp_M} {o : dp_O}
    (h : dp_wp X call d y Q (dp_KW p l e R s m args below meth c Qm g A (dp_mL y) ad) pc L st n cc q M o (dp_tab y pc).1) : dp_KW p l e R s m args below meth c Qm g A (dp_mL y) ad pc L st n cc q M o := by
  have C' := C
  obtain ⟨hx, hb, hml, hown, hts, htr, htab, hd1, hfr, hlo, hRc, hRs, hy, hG⟩ := C
  rcases dp_dec hy pc with e0 | ⟨hd, hl, hj⟩
  · rw [e0] at h
    exact h.elim
  generalize dp_tab y pc = ii at h hd hl hj
  obtain ⟨i, len⟩ := ii
  dsimp only at h hl hj
  cases i with
  | aload_n k =>
    obtain rfl := hl.resolve_left (fun z => by cases z)
    intro h0 ds H locs ls h1 h3 h4 h5 h6
    obtain ⟨x, hx1, hk⟩ := dp_lr_of h
    exact lv_aload_n hx hb hd rfl (h3.2.2 _ _ hx1) (hk h0 ds H locs ls h1 h3 h4 h5 h6)
  | aload k =>
    obtain rfl := hl.resolve_left (fun z => by cases z)
    intro h0 ds H locs ls h1 h3 h4 h5 h6
    obtain ⟨x, hx1, hk⟩ := dp_lr_of h
    exact lv_aload hx hb hd (h3.2.2 _ _ hx1) (hk h0 ds H locs ls h1 h3 h4 h5 h6)
  | iload_n k =>
    obtain rfl := hl.resolve_left (fun z => by cases z)
    intro h0 ds H locs ls h1 h3 h4 h5 h6
    obtain ⟨x, hx1, hk⟩ := dp_li_of h
    exact lv_iload_n hx hb hd rfl (h3.2.2 _ _ hx1) (hk h0 ds H locs ls h1 h3 h4 h5 h6)
  | iload k =>
    obtain rfl := hl.resolve_left (fun z => by cases z)
    intro h0 ds H locs ls h1 h3 h4 h5 h6
    obtain ⟨x, hx1, hk⟩ := dp_li_of h
    exact lv_iload hx hb hd (h3.2.2 _ _ hx1) (hk h0 ds H locs ls h1 h3 h4 h5 h6)
  | lload_n k =>
    obtain rfl := hl.resolve_left (fun z => by cases z)
    intro h0 ds H locs ls h1 h3 h4 h5 h6
    obtain ⟨x, hx1, hk⟩ := dp_lj_of h
    exact lv_lload_n hx hb hd rfl (h3.2.2 _ _ hx1) (hk h0 ds H locs ls h1 h3 h4 h5 h6)
  | lload k =>
    obtain rfl := hl.resolve_left (fun z => by cases z)
    intro h0 ds H locs ls h1 h3 h4 h5 h6
    obtain ⟨x, hx1, hk⟩ := dp_lj_of h
    exact lv_lload hx hb hd (h3.2.2 _ _ hx1) (hk h0 ds H locs ls h1 h3 h4 h5 h6)
  | dload k =>
    obtain rfl := hl.resolve_left (fun z => by cases z)
    intro h0 ds H locs ls h1 h3 h4 h5 h6
    obtain ⟨x, hx1, hk⟩ := dp_ld_of h
    exact lv_dload hx hb hd (h3.2.2 _ _ hx1) (hk h0 ds H locs ls h1 h3 h4 h5 h6)
  | iconst v =>
    obtain rfl := hl.resolve_left (fun z => by cases z)
    intro h0 ds H locs ls h1 h3 h4 h5 h6
    exact lv_iconst hx hb hd rfl (h h0 ds H locs ls h1 h3 h4 h5 h6)
  | bipush v =>
    obtain rfl := hl.resolve_left (fun z => by cases z)
    intro h0 ds H locs ls h1 h3 h4 h5 h6
    exact lv_bipush hx hb hd rfl (h h0 ds H locs ls h1 h3 h4 h5 h6)
  | sipush v =>
    obtain rfl := hl.resolve_left (fun z => by cases z)
    intro h0 ds H locs ls h1 h3 h4 h5 h6
    exact lv_sipush hx hb hd rfl (h h0 ds H locs ls h1 h3 h4 h5 h6)
  | ldc_w i =>
    obtain rfl := hl.resolve_left (fun z => by cases z)
    intro h0 ds H locs ls h1 h3 h4 h5 h6
    obtain ⟨v, hv, hk⟩ := dp_opt_of h
    exact lv_ldcw hx hb hown (hts _ (dp_wd_ci (dp_lo_in _ _ _ _ hv))) hd (hk h0 ds H locs ls h1 h3 h4 h5 h6)
  | dconst v =>
    obtain rfl := hl.resolve_left (fun z => by cases z)
    intro h0 ds H locs ls h1 h3 h4 h5 h6
    obtain ⟨rfl, hk⟩ := h
    exact lv_dconst0 hx hb hd (hk h0 ds H locs ls h1 h3 h4 h5 h6)
  | istore_n k =>
    obtain rfl := hl.resolve_left (fun z => by cases z)
    intro h0 ds H locs ls h1 h3 h4 h5 h6
    obtain ⟨x, r, rfl, hk⟩ := dp_pi_of h
    exact lv_istore_n hx hb hd rfl h3.has (of_decide_eq_true hj) rfl (fun ls' hl' => hk h0 ds H locs ls' h1 (dp_LH.s1 rfl hl') h4 h5 h6)
  | istore k =>
    obtain rfl := hl.resolve_left (fun z => by cases z)
    intro h0 ds H locs ls h1 h3 h4 h5 h6
    obtain ⟨x, r, rfl, hk⟩ := dp_pi_of h
    exact lv_istore hx hb hd h3.has (of_decide_eq_true hj) rfl (fun ls' hl' => hk h0 ds H locs ls' h1 (dp_LH.s1 rfl hl') h4 h5 h6)
  | lstore_n k =>
    obtain rfl := hl.resolve_left (fun z => by cases z)
    intro h0 ds H locs ls h1 h3 h4 h5 h6
    obtain ⟨x, r, rfl, hk⟩ := dp_pj_of h
    exact lv_lstore_n hx hb hd rfl h3.has (of_decide_eq_true hj) rfl (fun ls' hl' => hk h0 ds H locs ls' h1 (dp_LH.s2 rfl hl') h4 h5 h6)
  | lstore k =>
    obtain rfl := hl.resolve_left (fun z => by cases z)
    intro h0 ds H locs ls h1 h3 h4 h5 h6
    obtain ⟨x, r, rfl, hk⟩ := dp_pj_of h
    exact lv_lstore hx hb hd h3.has (of_decide_eq_true hj) rfl (fun ls' hl' => hk h0 ds H locs ls' h1 (dp_LH.s2 rfl hl') h4 h5 h6)
  | dstore k =>
    obtain rfl := hl.resolve_left (fun z => by cases z)
    intro h0 ds H locs ls h1 h3 h4 h5 h6
    obtain ⟨x, r, rfl, hk⟩ := dp_pd_of h
    exact lv_dstore hx hb hd h3.has (of_decide_eq_true hj) rfl (fun ls' hl' => hk h0 ds H locs ls' h1 (dp_LH.s2 rfl hl') h4 h5 h6)
  | astore_n k =>
    obtain rfl := hl.resolve_left (fun z => by cases z)
    intro h0 ds H locs ls h1 h3 h4 h5 h6
    obtain ⟨x, r, rfl, hk⟩ := dp_pr_of h
    exact lv_astore_n hx hb hd rfl h3.has (of_decide_eq_true hj) rfl (fun ls' hl' => hk h0 ds H locs ls' h1 (dp_LH.s1 rfl hl') h4 h5 h6)
  | astore k =>
    obtain rfl := hl.resolve_left (fun z => by cases z)
    intro h0 ds H locs ls h1 h3 h4 h5 h6
    obtain ⟨x, r, rfl, hk⟩ := dp_pr_of h
    exact lv_astore hx hb hd h3.has (of_decide_eq_true hj) rfl (fun ls' hl' => hk h0 ds H locs ls' h1 (dp_LH.s1 rfl hl') h4 h5 h6)
  | iinc i v =>
    obtain rfl := hl.resolve_left (fun z => by cases z)
    intro h0 ds H locs ls h1 h3 h4 h5 h6
    obtain ⟨x, hx1, hk⟩ := dp_li_of h
    obtain ⟨k9, hk9⟩ := List.getElem?_of_mem (dp_as_in ad L 0 i _ hx1)
    rw [Nat.zero_add] at hk9
    exact lv_iinc hx hb hd h3.has hk9 rfl (of_decide_eq_true hj) rfl (fun ls' hl' => hk h0 ds H locs ls' h1 (dp_LH.s1 rfl hl') h4 h5 h6)
  | iadd =>
    obtain rfl := hl.resolve_left (fun z => by cases z)
    intro h0 ds H locs ls h1 h3 h4 h5 h6
    obtain ⟨x, r, rfl, k1⟩ := dp_pi_of h
    obtain ⟨z, r, rfl, hk⟩ := dp_pi_of k1
    exact lv_iadd hx hb hd (hk h0 ds H locs ls h1 h3 h4 h5 h6)
  | isub =>
    obtain rfl := hl.resolve_left (fun z => by cases z)
    intro h0 ds H locs ls h1 h3 h4 h5 h6
    obtain ⟨x, r, rfl, k1⟩ := dp_pi_of h
    obtain ⟨z, r, rfl, hk⟩ := dp_pi_of k1
    exact lv_isub hx hb hd (hk h0 ds H locs ls h1 h3 h4 h5 h6)
  | imul =>
    obtain rfl := hl.resolve_left (fun z => by cases z)
    intro h0 ds H locs ls h1 h3 h4 h5 h6
    obtain ⟨x, r, rfl, k1⟩ := dp_pi_of h
    obtain ⟨z, r, rfl, hk⟩ := dp_pi_of k1
    exact lv_imul hx hb hd (hk h0 ds H locs ls h1 h3 h4 h5 h6)
  | iand =>
    obtain rfl := hl.resolve_left (fun z => by cases z)
    intro h0 ds H locs ls h1 h3 h4 h5 h6
    obtain ⟨x, r, rfl, k1⟩ := dp_pi_of h
    obtain ⟨z, r, rfl, hk⟩ := dp_pi_of k1
    exact lv_iand hx hb hd (hk h0 ds H locs ls h1 h3 h4 h5 h6)
  | ior =>
    obtain rfl := hl.resolve_left (fun z => by cases z)
    intro h0 ds H locs ls h1 h3 h4 h5 h6
    obtain ⟨x, r, rfl, k1⟩ := dp_pi_of h
    obtain ⟨z, r, rfl, hk⟩ := dp_pi_of k1
    exact lv_ior hx hb hd (hk h0 ds H locs ls h1 h3 h4 h5 h6)
  | ishl =>
    obtain rfl := hl.resolve_left (fun z => by cases z)
    intro h0 ds H locs ls h1 h3 h4 h5 h6
    obtain ⟨x, r, rfl, k1⟩ := dp_pi_of h
    obtain ⟨z, r, rfl, hk⟩ := dp_pi_of k1
    exact lv_ishl hx hb hd (hk h0 ds H locs ls h1 h3 h4 h5 h6)
  | ishr =>
    obtain rfl := hl.resolve_left (fun z => by cases z)
    intro h0 ds H locs ls h1 h3 h4 h5 h6
    obtain ⟨x, r, rfl, k1⟩ := dp_pi_of h
    obtain ⟨z, r, rfl, hk⟩ := dp_pi_of k1
    exact lv_ishr hx hb hd (hk h0 ds H locs ls h1 h3 h4 h5 h6)
  | iushr =>
    obtain rfl := hl.resolve_left (fun z => by cases z)
    intro h0 ds H locs ls h1 h3 h4 h5 h6
    obtain ⟨x, r, rfl, k1⟩ := dp_pi_of h
    obtain ⟨z, r, rfl, hk⟩ := dp_pi_of k1
    exact lv_iushr hx hb hd rfl (hk h0 ds H locs ls h1 h3 h4 h5 h6)
  | idiv =>
    obtain rfl := hl.resolve_left (fun z => by cases z)
    intro h0 ds H locs ls h1 h3 h4 h5 h6
    obtain ⟨x, r, rfl, k1⟩ := dp_pi_of h
    obtain ⟨z, r, rfl, hne, hk⟩ := dp_pi_of k1
    exact lv_idiv hx hb hd hne (hk h0 ds H locs ls h1 h3 h4 h5 h6)
  | i2l =>
    obtain rfl := hl.resolve_left (fun z => by cases z)
    intro h0 ds H locs ls h1 h3 h4 h5 h6
    obtain ⟨x, r, rfl, hk⟩ := dp_pi_of h
    exact lv_i2l hx hb hd rfl (hk h0 ds H locs ls h1 h3 h4 h5 h6)
  | i2d =>
    obtain rfl := hl.resolve_left (fun z => by cases z)
    intro h0 ds H locs ls h1 h3 h4 h5 h6
    obtain ⟨x, r, rfl, hk⟩ := dp_pi_of h
    exact lv_i2d hx hb hd (hk h0 ds H locs ls h1 h3 h4 h5 h6)
  | ladd =>
    obtain rfl := hl.resolve_left (fun z => by cases z)
    intro h0 ds H locs ls h1 h3 h4 h5 h6
    obtain ⟨x, r, rfl, k1⟩ := dp_pj_of h
    obtain ⟨z, r, rfl, hk⟩ := dp_pj_of k1
    exact lv_ladd hx hb hd (hk h0 ds H locs ls h1 h3 h4 h5 h6)
  | lmul =>
    obtain rfl := hl.resolve_left (fun z => by cases z)
    intro h0 ds H locs ls h1 h3 h4 h5 h6
    obtain ⟨x, r, rfl, k1⟩ := dp_pj_of h
    obtain ⟨z, r, rfl, hk⟩ := dp_pj_of k1
    exact lv_lmul hx hb hd (hk h0 ds H locs ls h1 h3 h4 h5 h6)
  | lcmp =>
    obtain rfl := hl.resolve_left (fun z => by cases z)
    intro h0 ds H locs ls h1 h3 h4 h5 h6
    obtain ⟨x, r, rfl, k1⟩ := dp_pj_of h
    obtain ⟨z, r, rfl, hk⟩ := dp_pj_of k1
    exact W.lcmp hx hb hd (hk h0 ds H locs ls h1 h3 h4 h5 h6)
  | ddiv =>
    obtain rfl := hl.resolve_left (fun z => by cases z)
    intro h0 ds H locs ls h1 h3 h4 h5 h6
    obtain ⟨x, r, rfl, k1⟩ := dp_pd_of h
    obtain ⟨z, r, rfl, hne, hk⟩ := dp_pd_of k1
    exact lv_ddiv hx hb hd hne (hk h0 ds H locs ls h1 h3 h4 h5 h6)
  | dcmp w =>
    obtain rfl := hl.resolve_left (fun z => by cases z)
    intro h0 ds H locs ls h1 h3 h4 h5 h6
    obtain ⟨x, r, rfl, k1⟩ := dp_pd_of h
    obtain ⟨z, r, rfl, hk⟩ := dp_pd_of k1
    exact lv_dcmp hx hb hd (hk h0 ds H locs ls h1 h3 h4 h5 h6)
  | ifCond cnd off =>
    obtain rfl := hl.resolve_left (fun z => by cases z)
    intro h0 ds H locs ls h1 h3 h4 h5 h6
    cases cnd with
    | eq =>
      obtain ⟨x, r, rfl, k1⟩ := dp_pi_of h
      exact lv_if_eq hx hb hd (dp_jt_eq (of_decide_eq_true hj)) (fun w => k1.1 w h0 ds H locs ls h1 h3 h4 h5 h6) (fun w => k1.2 w h0 ds H locs ls h1 h3 h4 h5 h6)
    | ne =>
      obtain ⟨x, r, rfl, k1⟩ := dp_pi_of h
      exact lv_if_ne hx hb hd (dp_jt_eq (of_decide_eq_true hj)) (fun w => k1.2 w h0 ds H locs ls h1 h3 h4 h5 h6) (fun w => k1.1 w h0 ds H locs ls h1 h3 h4 h5 h6)
    | lt =>
      obtain ⟨x, r, rfl, k1⟩ := dp_pi_of h
      exact lv_if_lt hx hb hd (dp_jt_eq (of_decide_eq_true hj)) (fun w => k1.1 w h0 ds H locs ls h1 h3 h4 h5 h6) (fun w => k1.2 w h0 ds H locs ls h1 h3 h4 h5 h6)
    | ge =>
      obtain ⟨x, r, rfl, k1⟩ := dp_pi_of h
      exact lv_if_ge hx hb hd (dp_jt_eq (of_decide_eq_true hj)) (fun w => k1.2 (Int32.not_lt.mpr w) h0 ds H locs ls h1 h3 h4 h5 h6) (fun w => k1.1 (Int32.not_le.mp w) h0 ds H locs ls h1 h3 h4 h5 h6)
    | gt =>
      obtain ⟨x, r, rfl, k1⟩ := dp_pi_of h
      exact lv_if_gt hx hb hd (dp_jt_eq (of_decide_eq_true hj)) (fun w => k1.1 w h0 ds H locs ls h1 h3 h4 h5 h6) (fun w => k1.2 w h0 ds H locs ls h1 h3 h4 h5 h6)
    | le =>
      obtain ⟨x, r, rfl, k1⟩ := dp_pi_of h
      exact lv_if_le hx hb hd (dp_jt_eq (of_decide_eq_true hj)) (fun w => k1.2 (Int32.not_lt.mpr w) h0 ds H locs ls h1 h3 h4 h5 h6) (fun w => k1.1 (Int32.not_le.mp w) h0 ds H locs ls h1 h3 h4 h5 h6)
  | if_icmp cnd off =>
    obtain rfl := hl.resolve_left (fun z => by cases z)
    intro h0 ds H locs ls h1 h3 h4 h5 h6
    cases cnd with
    | eq =>
      obtain ⟨x, r, rfl, k1⟩ := dp_pi_of h
      obtain ⟨z, r, rfl, k2⟩ := dp_pi_of k1
      exact lv_icmp_eq hx hb hd (dp_jt_eq (of_decide_eq_true hj)) (fun w => k2.1 w h0 ds H locs ls h1 h3 h4 h5 h6) (fun w => k2.2 w h0 ds H locs ls h1 h3 h4 h5 h6)
    | ne =>
      obtain ⟨x, r, rfl, k1⟩ := dp_pi_of h
      obtain ⟨z, r, rfl, k2⟩ := dp_pi_of k1
      exact lv_icmp_ne hx hb hd (dp_jt_eq (of_decide_eq_true hj)) (fun w => k2.2 w h0 ds H locs ls h1 h3 h4 h5 h6) (fun w => k2.1 w h0 ds H locs ls h1 h3 h4 h5 h6)
    | lt =>
      obtain ⟨x, r, rfl, k1⟩ := dp_pi_of h
      obtain ⟨z, r, rfl, k2⟩ := dp_pi_of k1
      exact lv_icmp_lt hx hb hd (dp_jt_eq (of_decide_eq_true hj)) (fun w => k2.1 w h0 ds H locs ls h1 h3 h4 h5 h6) (fun w => k2.2 w h0 ds H locs ls h1 h3 h4 h5 h6)
    | ge =>
      obtain ⟨x, r, rfl, k1⟩ := dp_pi_of h
      obtain ⟨z, r, rfl, k2⟩ := dp_pi_of k1
      exact lv_icmp_ge hx hb hd (dp_jt_eq (of_decide_eq_true hj)) (fun w => k2.2 (Int32.not_lt.mpr w) h0 ds H locs ls h1 h3 h4 h5 h6) (fun w => k2.1 (Int32.not_le.mp w) h0 ds H locs ls h1 h3 h4 h5 h6)
    | gt =>
      obtain ⟨x, r, rfl, k1⟩ := dp_pi_of h
      obtain ⟨z, r, rfl, k2⟩ := dp_pi_of k1
      exact lv_icmp_gt hx hb hd (dp_jt_eq (of_decide_eq_true hj)) (fun w => k2.1 w h0 ds H locs ls h1 h3 h4 h5 h6) (fun w => k2.2 w h0 ds H locs ls h1 h3 h4 h5 h6)
    | le =>
      obtain ⟨x, r, rfl, k1⟩ := dp_pi_of h
      obtain ⟨z, r, rfl, k2⟩ := dp_pi_of k1
      exact lv_icmp_le hx hb hd (dp_jt_eq (of_decide_eq_true hj)) (fun w => k2.2 (Int32.not_lt.mpr w) h0 ds H locs ls h1 h3 h4 h5 h6) (fun w => k2.1 (Int32.not_le.mp w) h0 ds H locs ls h1 h3 h4 h5 h6)
  | goto off =>
    obtain rfl := hl.resolve_left (fun z => by cases z)
    intro h0 ds H locs ls h1 h3 h4 h5 h6
    exact lv_goto hx hb hd (dp_jt_eq (of_decide_eq_true hj)) (h h0 ds H locs ls h1 h3 h4 h5 h6)
  | tableswitch dflt lo hi offs =>
    intro h0 ds H locs ls h1 h3 h4 h5 h6
    obtain ⟨x, r, rfl, k1, k2⟩ := dp_pi_of h
    simp only [dp_jok, Bool.and_eq_true, decide_eq_true_eq] at hj
    obtain ⟨⟨j1, j2⟩, j3⟩ := hj
    by_cases hlo9 : x.toInt < lo ∨ hi < x.toInt
    · exact lv_tableOut hx hb hd hlo9 (dp_jt_eq j1) (k1 hlo9 h0 ds H locs ls h1 h3 h4 h5 h6)
    · obtain ⟨n1, n2⟩ := not_or.mp hlo9
      obtain ⟨off, f1, f2⟩ := dp_ts_of (x.toInt - lo).toNat k2 (by omega) (by omega)
      have f3 : offs[(x.toInt - lo).toNat]? = some off := by rw [← Array.getElem?_toList]; exact f1
      have f4 := List.all_eq_true.mp j2 off (List.mem_of_getElem? f1)
      exact lv_tableIn hx hb hd n1 n2 f3 (dp_jt_eq (of_decide_eq_true f4)) (f2 h0 ds H locs ls h1 h3 h4 h5 h6)
  | getfield i =>
    obtain rfl := hl.resolve_left (fun z => by cases z)
    intro h0 ds H locs ls h1 h3 h4 h5 h6
    obtain ⟨hh, r, rfl, k0⟩ := dp_pr_of h
    rcases k0 with ⟨hhn, k1⟩ | ⟨ci, k, fs, v, g1, g2, g3, g4⟩
    · obtain ⟨ci, k, fs, v, g1, g2, g3, g4⟩ := dp_get_of k1
      rw [h0] at hhn
      have hm := dp_fld_in g1
      obtain ⟨f1, f2, f3, f4⟩ := dp_fl_ok _ hm
      have hcl := dp_clT f2
      have hlk := hts _ (dp_wd_field hm)
      unfold dp_fieldW at hlk
      rw [f4] at hlk
      refine va_get (C := (vwCl.getD ci (RX0, TX0, 5)).1) (T := (vwCl.getD ci (RX0, TX0, 5)).2.1) (N := (vwCl.getD ci (RX0, TX0, 5)).2.2) (ref := (vwCl.getD ci (RX0, TX0, 5)).1) (v := dp_cv ad v) hx hb hts (dp_wd_lays hcl) hown hG.1 h4 (dp_pos hh) (by rw [dp_wl_at hhn (dp_obj_k g2), dp_cel_O g2]) hcl k f3 hlk (fun x9 h9 => by rw [← f4]; exact h9) (by rw [List.getElem?_map, dp_gtv_get _ _ _ g3]; rfl) hd ?_
      exact g4 h0 ds H locs ls h1 h3 h4 h5 h6
    · obtain ⟨p1, kd, p2, p3⟩ := dp_dyn (g := g) (M := M) h1 had g2
      have hm := dp_fld_in g1
      obtain ⟨f1, f2, f3, f4⟩ := dp_fl_ok _ hm
      have hcl := dp_clT f2
      have hlk := hts _ (dp_wd_field hm)
      unfold dp_fieldW at hlk
      rw [f4] at hlk
      refine va_get (C := (vwCl.getD ci (RX0, TX0, 5)).1) (T := (vwCl.getD ci (RX0, TX0, 5)).2.1) (N := (vwCl.getD ci (RX0, TX0, 5)).2.2) (ref := (vwCl.getD ci (RX0, TX0, 5)).1) (fs := fs.map (dp_cv ad)) (v := dp_cv ad v) hx hb hts (dp_wd_lays hcl) hown hG.1 h4 (60 + kd) p3 hcl k f3 hlk (fun x9 h9 => by rw [← f4]; exact h9) (by rw [List.getElem?_map, dp_gtv_get _ _ _ g3]; rfl) hd ?_
      exact g4 h0 ds H locs ls h1 h3 h4 h5 h6
  | putfield i =>
    obtain rfl := hl.resolve_left (fun z => by cases z)
    intro h0 ds H locs ls h1 h3 h4 h5 h6
    rcases h with h | h
    · obtain ⟨x, r, rfl, k0⟩ := dp_pi_of h
      obtain ⟨hh, r, rfl, hhn, k1⟩ := dp_pr_of k0
      rw [h0] at hhn
      obtain ⟨ci, k, fs, w, g1, g2, g3, g4⟩ := dp_put_of k1
      have hm := dp_fld_in g1
      obtain ⟨f1, f2, f3, f4⟩ := dp_fl_ok _ hm
      have hcl := dp_clT f2
      obtain ⟨ty0, t1, t2⟩ := dp_clF hcl
      obtain ⟨q1, q2, q3, q4, q5⟩ := dp_objint g2 g3
      have hlk := hts _ (dp_wd_field hm)
      unfold dp_fieldW at hlk
      rw [f4] at hlk
      refine va_put (C := (vwCl.getD ci (RX0, TX0, 5)).1) (T := (vwCl.getD ci (RX0, TX0, 5)).2.1) (N := (vwCl.getD ci (RX0, TX0, 5)).2.2) (ref := (vwCl.getD ci (RX0, TX0, 5)).1) (v := .int x) (ty := .int) hx hb hts (dp_wd_lays hcl) ty0 t1 t2 hown hG.1 h4 h5 h6 (dp_pos hh) (by rw [dp_wl_at hhn (dp_obj_k g2), dp_cel_O g2]) hcl k f3 hlk (fun x9 h9 => by rw [← f4]; exact h9) q3 q4 rfl rfl (by rw [List.length_map]; exact q5) hd (fun H1 locs1 e1 e2 e3 => ?_)
      rw [dp_set_F hhn g2 g3] at e1 e2
      exact g4 h0 ds H1 locs1 ls h1 h3 e1 e2 e3
    · obtain ⟨v, r, rfl, k0⟩ := dp_p1_of h
      obtain ⟨hh, r, rfl, ci, k, fs, g1, gc, g2, g3, gv, g4⟩ := dp_pr_of k0
      obtain ⟨p1, kd, p2, p3⟩ := dp_dyn (g := g) (M := M) h1 had g2
      have hm := dp_fld_in g1
      obtain ⟨f1, f2, f3, f4⟩ := dp_fl_ok _ hm
      have hcl := dp_clT f2
      obtain ⟨ty0, t1, t2⟩ := dp_clF hcl
      have f30 : k < 5 := by rcases gc with rfl | rfl <;> exact f3
      obtain ⟨q3, ⟨ty, q4, q5⟩, -⟩ := dp_lawF ci f2 gc k f30
      obtain ⟨n1, n2⟩ := dp_fvn (ad9 := ad) gv q5
      have hlk := hts _ (dp_wd_field hm)
      unfold dp_fieldW at hlk
      rw [f4] at hlk
      refine va_put (C := (vwCl.getD ci (RX0, TX0, 5)).1) (T := (vwCl.getD ci (RX0, TX0, 5)).2.1) (N := (vwCl.getD ci (RX0, TX0, 5)).2.2) (ref := (vwCl.getD ci (RX0, TX0, 5)).1) (fs := fs.map (dp_cv ad)) (v := dp_cv ad v) (ty := ty) hx hb hts (dp_wd_lays hcl) ty0 t1 t2 hown hG.1 h4 h5 h6 (60 + kd) p3 hcl k f3 hlk (fun x9 h9 => by rw [← f4]; exact h9) q3 q4 n1 n2 (by rw [List.length_map]; exact g3) hd (fun H1 locs1 e1 e2 e3 => ?_)
      rw [← List.map_set, had.of p1, show ((.inr (ci, (fs.set k v).map (dp_cv ad)) : va_E)) = dp_cec g ad (.inl (ci, fs.set k v)) from rfl, dp_dset] at e1 e2
      exact g4 h0 _ H1 locs1 ls (dp_rset h1 p2 p1) h3 e1 e2 e3
  | iaload =>
    obtain rfl := hl.resolve_left (fun z => by cases z)
    intro h0 ds H locs ls h1 h3 h4 h5 h6
    obtain ⟨i, r, rfl, k1⟩ := dp_pi_of h
    obtain ⟨hh, r, rfl, k2⟩ := dp_pr_of k1
    rcases k2 with ⟨rfl, q1, q2⟩ | ⟨q0, q1, q2, q3, q4⟩ | ⟨m9, f9, q1, q2, q3⟩
    · have hX9 := hG.2.2.2
      have := va_sld hx hb hX9.1 hX9.2.1 hX9.2.2.1 h6 q1 hd (q2 h0 ds H locs ls h1 h3 h4 h5 h6)
      rw [← had.1] at this
      exact this
    · rw [h0] at q2
      exact va_iald hx hb hG.1 h4 (dp_pos hh) 0 (dp_wl_A q2 q1) rfl q3 hd (q4 h0 ds H locs ls h1 h3 h4 h5 h6)
    · obtain ⟨p1, kd, p2, p3⟩ := dp_dyn (g := g) (M := M) h1 had q1
      exact va_iald hx hb hG.1 h4 (60 + kd) 0 p3 rfl q2 hd (q3 h0 ds H locs ls h1 h3 h4 h5 h6)
  | baload =>
    obtain rfl := hl.resolve_left (fun z => by cases z)
    intro h0 ds H locs ls h1 h3 h4 h5 h6
    obtain ⟨i, r, rfl, k1⟩ := dp_pi_of h
    obtain ⟨hh, r, rfl, m9, f9, q1, q2, q3⟩ := dp_pr_of k1
    obtain ⟨p1, kd, p2, p3⟩ := dp_dyn (g := g) (M := M) h1 had q1
    exact va_zald hx hb hG.1 h4 (60 + kd) 1 p3 rfl q2 hd (q3 h0 ds H locs ls h1 h3 h4 h5 h6)
  | iastore =>
    obtain rfl := hl.resolve_left (fun z => by cases z)
    intro h0 ds H locs ls h1 h3 h4 h5 h6
    obtain ⟨x, r, rfl, k0⟩ := dp_pi_of h
    obtain ⟨i, r, rfl, k1⟩ := dp_pi_of k0
    obtain ⟨hh, r, rfl, k2⟩ := dp_pr_of k1
    rcases k2 with ⟨q1, q2, q3, q4⟩ | ⟨m9, f9, q1, q2, q3⟩
    · rw [h0] at q2
      refine va_iast hx hb hG.1 h4 h5 h6 (dp_pos hh) 0 (dp_wl_A q2 q1) rfl q3 hd (fun H1 locs1 e1 e2 e3 => ?_)
      rw [dp_set_A q2 q1, dp_up_row] at e1 e2
      exact q4 h0 ds H1 locs1 ls h1 h3 e1 e2 e3
    · obtain ⟨p1, kd, p2, p3⟩ := dp_dyn (g := g) (M := M) h1 had q1
      refine va_iast hx hb hG.1 h4 h5 h6 (60 + kd) 0 p3 rfl q2 hd (fun H1 locs1 e1 e2 e3 => ?_)
      have e1 : va_P g.1 vwCl ((dp_ww g ad M ds).set (60 + kd) (hh - 10000, dp_cec g ad (.inr (.inl (false, m9, upd f9 i.toNatClampNeg x))))) H1 := by rw [← had.of p1]; exact e1
      have e2 : va_D A ((dp_ww g ad M ds).set (60 + kd) (hh - 10000, dp_cec g ad (.inr (.inl (false, m9, upd f9 i.toNatClampNeg x))))) := by rw [← had.of p1]; exact e2
      rw [dp_dset] at e1 e2
      exact q3 h0 _ H1 locs1 ls (dp_rset h1 p2 p1) h3 e1 e2 e3
  | bastore =>
    obtain rfl := hl.resolve_left (fun z => by cases z)
    intro h0 ds H locs ls h1 h3 h4 h5 h6
    obtain ⟨x, r, rfl, k0⟩ := dp_pi_of h
    obtain ⟨i, r, rfl, k1⟩ := dp_pi_of k0
    obtain ⟨hh, r, rfl, m9, f9, q1, q2, q3⟩ := dp_pr_of k1
    obtain ⟨p1, kd, p2, p3⟩ := dp_dyn (g := g) (M := M) h1 had q1
    refine va_zast hx hb hG.1 h4 h5 h6 (60 + kd) 1 p3 rfl q2 hd (fun H1 locs1 e1 e2 e3 => ?_)
    have e1 : va_P g.1 vwCl ((dp_ww g ad M ds).set (60 + kd) (hh - 10000, dp_cec g ad (.inr (.inl (true, m9, upd f9 i.toNatClampNeg (vp_nar .boolean x)))))) H1 := by rw [← had.of p1]; exact e1
    have e2 : va_D A ((dp_ww g ad M ds).set (60 + kd) (hh - 10000, dp_cec g ad (.inr (.inl (true, m9, upd f9 i.toNatClampNeg (vp_nar .boolean x)))))) := by rw [← had.of p1]; exact e2
    rw [dp_dset] at e1 e2
    exact q3 h0 _ H1 locs1 ls (dp_rset h1 p2 p1) h3 e1 e2 e3
  | aaload =>
    obtain rfl := hl.resolve_left (fun z => by cases z)
    intro h0 ds H locs ls h1 h3 h4 h5 h6
    obtain ⟨i, r, rfl, k1⟩ := dp_pi_of h
    obtain ⟨hh, r, rfl, k0⟩ := dp_pr_of k1
    rcases k0 with ⟨hhn, k2⟩ | ⟨b9, m9, f9, a9, q1, q2, q3, q4⟩
    · rw [h0] at hhn
      unfold dp_aal at k2
      split at k2
      · exact dp_aald hx hb hG.1 h4 7 2 (dp_wl_at hhn (by decide)) rfl k2.1 hd (by rw [dp_outA k2.1]; exact k2.2 h0 ds H locs ls h1 h3 h4 h5 h6)
      · exact dp_aald hx hb hG.1 h4 9 2 (dp_wl_at hhn (by decide)) rfl k2.1 hd (by rw [dp_outA k2.1]; exact k2.2 h0 ds H locs ls h1 h3 h4 h5 h6)
      · exact dp_aald hx hb hG.1 h4 11 2 (dp_wl_at hhn (by decide)) rfl k2.1 hd (by rw [dp_outA k2.1]; exact k2.2 h0 ds H locs ls h1 h3 h4 h5 h6)
      · exact k2.elim
    · obtain ⟨p1, kd, p2, p3⟩ := dp_dyn (g := g) (M := M) h1 had q1
      have e9 : va_rf ((fun j => (f9 j).map ad) i.toNatClampNeg) = .ref (ad a9) := by show va_rf ((f9 _).map ad) = _; rw [q3]; rfl
      cases b9 with
      | false => exact dp_aald hx hb hG.1 h4 (60 + kd) 2 p3 rfl q2 hd (by rw [e9]; exact q4 h0 ds H locs ls h1 h3 h4 h5 h6)
      | true => exact va_aldq hx hb hG.1 h4 (60 + kd) 3 p3 rfl q2 hd (by rw [e9]; exact q4 h0 ds H locs ls h1 h3 h4 h5 h6)
  | aastore =>
    obtain rfl := hl.resolve_left (fun z => by cases z)
    intro h0 ds H locs ls h1 h3 h4 h5 h6
    obtain ⟨v, r, rfl, k0⟩ := dp_pr_of h
    obtain ⟨i, r, rfl, k1⟩ := dp_pi_of k0
    obtain ⟨hh, r, rfl, b9, m9, f9, q1, q2, qe, q3⟩ := dp_pr_of k1
    obtain ⟨p1, kd, p2, p3⟩ := dp_dyn (g := g) (M := M) h1 had q1
    have ef : va_up (fun j => (f9 j).map ad) i.toNatClampNeg (some (ad v)) = fun j => ((fun j => if j = i.toNatClampNeg then some v else f9 j) j).map ad := by
      funext j
      unfold va_up
      by_cases hj : j = i.toNatClampNeg <;> simp [hj]
    rcases qe with ⟨rfl, m8, f8, q8⟩ | ⟨rfl, fs8, q8⟩
    · obtain ⟨-, kv, -, p8⟩ := dp_dyn (g := g) (M := M) h1 had q8
      refine dp_aast hx hb hG.1 h4 h5 h6 hG.2.2.2.2.2.2.2.2.2.2.1 (60 + kd) 2 (60 + kv) 0 p3 rfl p8 rfl q2 hd (fun H1 locs1 e1 e2 e3 => ?_)
      have e1 : va_P g.1 vwCl ((dp_ww g ad M ds).set (60 + kd) (hh - 10000, dp_cec g ad (.inr (.inr (false, m9, fun j => if j = i.toNatClampNeg then some v else f9 j))))) H1 := by rw [← had.of p1]; rw [ef] at e1; exact e1
      have e2 : va_D A ((dp_ww g ad M ds).set (60 + kd) (hh - 10000, dp_cec g ad (.inr (.inr (false, m9, fun j => if j = i.toNatClampNeg then some v else f9 j))))) := by rw [← had.of p1]; rw [ef] at e2; exact e2
      rw [dp_dset] at e1 e2
      exact q3 h0 _ H1 locs1 ls (dp_rset h1 p2 p1) h3 e1 e2 e3
    · obtain ⟨-, kv, -, p8⟩ := dp_dyn (g := g) (M := M) h1 had q8
      refine va_astq (r := (RX4, TX4, 5)) (ci := 4) hx hb hG.1 h4 h5 h6 (60 + kd) 3 (60 + kv) p3 rfl p8 rfl q2 hd (fun H1 locs1 e1 e2 e3 => ?_)
      have e1 : va_P g.1 vwCl ((dp_ww g ad M ds).set (60 + kd) (hh - 10000, dp_cec g ad (.inr (.inr (true, m9, fun j => if j = i.toNatClampNeg then some v else f9 j))))) H1 := by rw [← had.of p1]; rw [ef] at e1; exact e1
      have e2 : va_D A ((dp_ww g ad M ds).set (60 + kd) (hh - 10000, dp_cec g ad (.inr (.inr (true, m9, fun j => if j = i.toNatClampNeg then some v else f9 j))))) := by rw [← had.of p1]; rw [ef] at e2; exact e2
      rw [dp_dset] at e1 e2
      exact q3 h0 _ H1 locs1 ls (dp_rset h1 p2 p1) h3 e1 e2 e3
  | arraylength =>
    obtain rfl := hl.resolve_left (fun z => by cases z)
    intro h0 ds H locs ls h1 h3 h4 h5 h6
    obtain ⟨hh, r, rfl, k2⟩ := dp_pr_of h
    rcases k2 with ⟨rfl, q2⟩ | ⟨q0, q1, q2, q4⟩ | ⟨c9, m9, q1, q2, q3⟩
    · have hX9 := hG.2.2.2
      have := va_slen hx hb hX9.1 hX9.2.1 hX9.2.2.1 h6 hd (q2 h0 ds H locs ls h1 h3 h4 h5 h6)
      rw [← had.1] at this
      exact this
    · rw [h0] at q2
      exact va_alen hx hb hG.1 h4 (dp_pos hh) 0 (dp_wl_A q2 q1) rfl rfl hd (q4 h0 ds H locs ls h1 h3 h4 h5 h6)
    · obtain ⟨p1, kd, p2, p3⟩ := dp_dyn (g := g) (M := M) h1 had q1
      match c9, q2, p3 with
      | .inl _, q2, _ => cases q2
      | .inr (.inl (false, _, _)), rfl, p3 => exact va_alen hx hb hG.1 h4 (60 + kd) 0 p3 rfl rfl hd (q3 h0 ds H locs ls h1 h3 h4 h5 h6)
      | .inr (.inl (true, _, _)), rfl, p3 => exact va_alen hx hb hG.1 h4 (60 + kd) 1 p3 rfl rfl hd (q3 h0 ds H locs ls h1 h3 h4 h5 h6)
      | .inr (.inr (false, _, _)), rfl, p3 => exact va_alen hx hb hG.1 h4 (60 + kd) 2 p3 rfl rfl hd (q3 h0 ds H locs ls h1 h3 h4 h5 h6)
      | .inr (.inr (true, _, _)), rfl, p3 => exact va_alen hx hb hG.1 h4 (60 + kd) 3 p3 rfl rfl hd (q3 h0 ds H locs ls h1 h3 h4 h5 h6)
  | newarray ty =>
    obtain rfl := hl.resolve_left (fun z => by cases z)
    intro h0 ds H locs ls h1 h3 h4 h5 h6
    obtain ⟨k, r, rfl, k0⟩ := dp_pi_of h
    obtain ⟨b9, hb9, q1, q2, q3, q4, q5⟩ := dp_opt_of k0
    have key : ∀ q9 (H1 : Heap) e9, e9 = dp_cec g ad (.inr (.inl (b9, k.toNatClampNeg, fun _ => 0))) → va_P g.1 vwCl (dp_ww g ad M ds ++ [(q9, e9)]) H1 → va_D A (dp_ww g ad M ds ++ [(q9, e9)]) → va_S A s.heap H1 locs → W p l e R s m args below meth c H1 locs (cc + 1) (q + k.toNatClampNeg) Qm (F0 m (pc + 2) ls (.ref q9 :: r.map (dp_cv ad))) := by
      intro q9 H1 e9 he e1 e2 e3
      subst he
      have hf := dp_fresh (g := g) h1 e2
      rw [dp_dpush] at e1 e2
      have := q5 q9 hf h0 _ H1 locs ls (dp_rpush h1) h3 e1 e2 e3
      rw [List.map_cons, show dp_cv ad (.ref (10000 + q9)) = .ref q9 from congrArg Value.ref (had.2 q9)] at this
      exact this
    cases ty with
    | int =>
      have hb9 : some false = some b9 := hb9
      cases hb9
      refine va_newa (atype := .int) (ty := .int) (N' := k.toNatClampNeg) (a0 := (k.toNatClampNeg, .inl fun _ => 0)) hx hb (hts _ (dp_wd_x0 17 rfl)) rfl hG.1 h4 h5 h6 hG.2.2.2.2.2.2.2.2.2.1 (fun cA => rfl) q1 rfl (by show k.toNatClampNeg * 4 ≤ 536870912; omega) (by rw [hRc]; exact q3) (by rw [hRs]; exact q4) hd (fun q9 cA H1 hK1 e1 e2 e3 => ?_)
      have e0 : (T3 g ++ [(cA, FieldType.int)])[(4 : Nat)]? = some (cA, .int) := rfl
      have r1 : s.vm.findClass _ = some cA := (hK1.2 _ _ e0).2
      have r2 : s.vm.findClass _ = some g.2.1 := (hG.1.2 0 _ rfl).2
      obtain rfl : cA = g.2.1 := Option.some.inj (r1.symm.trans r2)
      exact key q9 H1 _ rfl e1 e2 e3
    | boolean =>
      have hb9 : some true = some b9 := hb9
      cases hb9
      refine va_newa (atype := .boolean) (ty := .boolean) (N' := k.toNatClampNeg) (a0 := (k.toNatClampNeg, .inl fun _ => 0)) hx hb (hts _ (dp_wd_x0 18 rfl)) rfl hG.1 h4 h5 h6 hG.2.2.2.2.2.2.2.2.2.1 (fun cA => rfl) q1 rfl (by show k.toNatClampNeg * 1 ≤ 536870912; omega) (by rw [hRc]; exact q3) (by rw [hRs]; exact q4) hd (fun q9 cA H1 hK1 e1 e2 e3 => ?_)
      have e0 : (T3 g ++ [(cA, FieldType.boolean)])[(4 : Nat)]? = some (cA, .boolean) := rfl
      have r1 : s.vm.findClass _ = some cA := (hK1.2 _ _ e0).2
      have r2 : s.vm.findClass _ = some g.2.2.1 := (hG.1.2 1 _ rfl).2
      obtain rfl : cA = g.2.2.1 := Option.some.inj (r1.symm.trans r2)
      exact key q9 H1 _ rfl e1 e2 e3
    | _ => cases hb9
  | anewarray i =>
    obtain rfl := hl.resolve_left (fun z => by cases z)
    intro h0 ds H locs ls h1 h3 h4 h5 h6
    obtain ⟨k, r, rfl, k0⟩ := dp_pi_of h
    obtain ⟨b9, hb9, q1, q2, q3, q4, q5⟩ := dp_opt_of k0
    have key : ∀ q9 (H1 : Heap) e9, e9 = dp_cec g ad (.inr (.inr (b9, k.toNatClampNeg, fun _ => none))) → va_P g.1 vwCl (dp_ww g ad M ds ++ [(q9, e9)]) H1 → va_D A (dp_ww g ad M ds ++ [(q9, e9)]) → va_S A s.heap H1 locs → W p l e R s m args below meth c H1 locs (cc + 1) (q + k.toNatClampNeg) Qm (F0 m (pc + 3) ls (.ref q9 :: r.map (dp_cv ad))) := by
      intro q9 H1 e9 he e1 e2 e3
      subst he
      have hf := dp_fresh (g := g) h1 e2
      rw [dp_dpush] at e1 e2
      have := q5 q9 hf h0 _ H1 locs ls (dp_rpush h1) h3 e1 e2 e3
      rw [List.map_cons, show dp_cv ad (.ref (10000 + q9)) = .ref q9 from congrArg Value.ref (had.2 q9)] at this
      exact this
    have hcl9 : (b9 = false ∧ ((Cond.classLink (dp_o (dp_ow y)) i "[I").before args s = true)) ∨ (b9 = true ∧ ((Cond.classLink (dp_o (dp_ow y)) i RX4).before args s = true)) := dp_an_of hb9 (fun k w hw => hts w (dp_wd_x0 k hw))
    rcases hcl9 with ⟨rfl, hcl9⟩ | ⟨rfl, hcl9⟩
    · exact dp_newA hx hb hown hcl9 hG.2.2.2.2.2.2.2.2.2.2.1 hG.1 h4 h5 h6 hG.2.2.2.2.2.2.2.2.2.1 2 rfl q1 rfl (by omega) (by rw [hRc]; exact q3) (by rw [hRs]; exact q4) hd (fun q9 H1 e1 e2 e3 => key q9 H1 _ rfl e1 e2 e3)
    · refine va_newq (C := RX4) hx hb hown hcl9 hG.2.2.2.2.2.2.2.2.2.2.2.1 hG.1 h4 h5 h6 hG.2.2.2.2.2.2.2.2.2.1 q1 rfl (by omega) (by rw [hRc]; exact q3) (by rw [hRs]; exact q4) hd (fun q9 cA H1 hK1 e1 e2 e3 => ?_)
      have e0 : (T3 g ++ [(cA, FieldType.object RX4)])[(4 : Nat)]? = some (cA, .object RX4) := rfl
      obtain ⟨_, _, _, _, _, r1⟩ := (hK1.2 _ _ e0).2
      obtain ⟨_, _, _, _, _, r2⟩ := (hG.1.2 3 _ rfl).2
      obtain rfl : cA = g.2.2.2.2 := Option.some.inj (r1.symm.trans r2)
      exact key q9 H1 _ rfl e1 e2 e3
  | ifnonnull off =>
    obtain rfl := hl.resolve_left (fun z => by cases z)
    intro h0 ds H locs ls h1 h3 h4 h5 h6
    obtain ⟨x, r, rfl, hk⟩ := dp_pr_of h
    exact lv_ifnonnull hx hb hd (dp_jt_eq (of_decide_eq_true hj)) (hk h0 ds H locs ls h1 h3 h4 h5 h6)
  | irem =>
    obtain rfl := hl.resolve_left (fun z => by cases z)
    intro h0 ds H locs ls h1 h3 h4 h5 h6
    obtain ⟨x, r, rfl, k1⟩ := dp_pi_of h
    obtain ⟨z, r, rfl, hne, hk⟩ := dp_pi_of k1
    exact lv_irem hx hb hd hne (hk h0 ds H locs ls h1 h3 h4 h5 h6)
  | ldc i =>
    obtain rfl := hl.resolve_left (fun z => by cases z)
    intro h0 ds H locs ls h1 h3 h4 h5 h6
    obtain ⟨v, hv, hk⟩ := dp_opt_of h
    exact lv_ldc hx hb hown (hts _ (dp_wd_ci (dp_lo_in _ _ _ _ hv))) hd (hk h0 ds H locs ls h1 h3 h4 h5 h6)
  | dup =>
    obtain rfl := hl.resolve_left (fun z => by cases z)
    intro h0 ds H locs ls h1 h3 h4 h5 h6
    obtain ⟨v, r, rfl, q1, q2⟩ := dp_p1_of h
    exact lv_dup hx hb hd (by rw [dp_cv_cat]; exact q1) (q2 h0 ds H locs ls h1 h3 h4 h5 h6)
  | dup2 =>
    obtain rfl := hl.resolve_left (fun z => by cases z)
    intro h0 ds H locs ls h1 h3 h4 h5 h6
    obtain ⟨v, r, rfl, k1⟩ := dp_p1_of h
    obtain ⟨w, r, rfl, q1, q2, q3⟩ := dp_p1_of k1
    exact lv_dup2_11 hx hb hd (by rw [dp_cv_cat]; exact q1) (by rw [dp_cv_cat]; exact q2) (q3 h0 ds H locs ls h1 h3 h4 h5 h6)
  | pop =>
    obtain rfl := hl.resolve_left (fun z => by cases z)
    intro h0 ds H locs ls h1 h3 h4 h5 h6
    obtain ⟨v, r, rfl, q1, q2⟩ := dp_p1_of h
    exact lv_pop hx hb hd (by rw [dp_cv_cat]; exact q1) (q2 h0 ds H locs ls h1 h3 h4 h5 h6)
  | return_ =>
    obtain rfl := hl.resolve_left (fun z => by cases z)
    intro h0 ds H locs ls h1 h3 h4 h5 h6
    obtain ⟨rfl, q1, q2, q3, q4⟩ := h
    exact hE none pc cc q M o ds H locs ls h1 h4 h5 h6 (Or.inl ⟨hd, rfl, q1⟩) q2 q3 q4
  | ireturn =>
    obtain rfl := hl.resolve_left (fun z => by cases z)
    intro h0 ds H locs ls h1 h3 h4 h5 h6
    obtain ⟨x, r, rfl, rfl, q1, q2, q3, q4⟩ := dp_pi_of h
    exact hE (some (.int x)) pc cc q M o ds H locs ls h1 h4 h5 h6 (Or.inr (Or.inl ⟨x, hd, rfl, q1⟩)) q2 q3 q4
  | lreturn =>
    obtain rfl := hl.resolve_left (fun z => by cases z)
    intro h0 ds H locs ls h1 h3 h4 h5 h6
    obtain ⟨x, r, rfl, rfl, q1, q2, q3, q4⟩ := dp_pj_of h
    exact hE (some (.long x)) pc cc q M o ds H locs ls h1 h4 h5 h6 (Or.inr (Or.inr (Or.inl ⟨x, hd, rfl, q1⟩))) q2 q3 q4
  | dreturn =>
    obtain rfl := hl.resolve_left (fun z => by cases z)
    intro h0 ds H locs ls h1 h3 h4 h5 h6
    obtain ⟨x, r, rfl, rfl, q1, q2, q3, q4⟩ := dp_pd_of h
    exact hE (some (.double x)) pc cc q M o ds H locs ls h1 h4 h5 h6 (Or.inr (Or.inr (Or.inr (Or.inl ⟨x, hd, rfl, q1⟩)))) q2 q3 q4
  | areturn =>
    obtain rfl := hl.resolve_left (fun z => by cases z)
    intro h0 ds H locs ls h1 h3 h4 h5 h6
    obtain ⟨x, r, rfl, rfl, q1, q2, q3, q4⟩ := dp_pr_of h
    exact hE (some (.ref x)) pc cc q M o ds H locs ls h1 h4 h5 h6 (Or.inr (Or.inr (Or.inr (Or.inr ⟨x, hd, rfl, q1⟩)))) q2 q3 q4
  | invokevirtual i =>
    obtain rfl := hl.resolve_left (fun z => by cases z)
    exact dp_inv_ok C' had hdd hX hC (sb := false) hd h
  | invokestatic i =>
    obtain rfl := hl.resolve_left (fun z => by cases z)
    rcases h with h | h
    · exact dp_inv_ok C' had hdd hX hC (sb := true) hd h
    · exact dp_natw_ok C' hd h
  | invokespecial i =>
    obtain rfl := hl.resolve_left (fun z => by cases z)
    rcases h with h | h | ⟨hn9, h⟩
    · exact dp_ins_ok C' had hdd hX hC hd (Or.inl h)
    · exact dp_ins_ok C' had hdd hX hC hd (Or.inr h)
    · intro h0 ds H locs ls h1 h3 h4 h5 h6
      obtain ⟨x, r, rfl, hr, hk⟩ := dp_pr_of h
      have hmem := dp_lo_in _ _ _ _ hn9
      have hlk := hts _ (dp_wd_nat hmem)
      unfold dp_linkN at hlk
      have := dp_sum_le ad r
      exact W.objInit (g := F0 m pc ls ((.ref x :: r).map (dp_cv ad))) hx hb hown hlk (hts _ (dp_wd_x0 8 rfl)) (hts _ (dp_wd_x0 9 rfl)) rfl (by rw [hml]; exact h3.1) rfl hd (Nat.le_trans hd1 hfr) (by show 2 * 0 + _ + 12 ≤ _; omega) (hk h0 ds H locs ls h1 h3 h4 h5 h6)
  | new i =>
    obtain rfl := hl.resolve_left (fun z => by cases z)
    intro h0 ds H locs ls h1 h3 h4 h5 h6
    rcases h with ⟨ho, h⟩ | h
    · obtain ⟨q1, q2, q3⟩ := dp_ec_of h
      simp only [dp_jok, Bool.or_eq_true, beq_iff_eq] at hj
      rcases hj with hj | hj
      · omega
      · exact hN i pc cc q M o ds H locs ls st h1 h3.1 h4 h5 h6 hd hj ho q2 q3 q1
    · obtain ⟨ci, hc9, q3, q4, q5⟩ := dp_opt_of h
      have key : ∀ q9 (H1 : Heap) e9, e9 = dp_cec g ad (.inl (ci, dp_df ci)) → va_P g.1 vwCl (dp_ww g ad M ds ++ [(q9, e9)]) H1 → va_D A (dp_ww g ad M ds ++ [(q9, e9)]) → va_S A s.heap H1 locs → W p l e R s m args below meth c H1 locs (cc + 1) (q + 5) Qm (F0 m (pc + 3) ls (.ref q9 :: st.map (dp_cv ad))) := by
        intro q9 H1 e9 he e1 e2 e3
        subst he
        have hf := dp_fresh (g := g) h1 e2
        rw [dp_dpush] at e1 e2
        have := q5 q9 hf h0 _ H1 locs ls (dp_rpush h1) h3 e1 e2 e3
        rw [List.map_cons, show dp_cv ad (.ref (10000 + q9)) = .ref q9 from congrArg Value.ref (had.2 q9)] at this
        exact this
      rcases dp_nw_of hc9 with ⟨ho, rfl, rfl⟩ | ⟨ho, rfl, rfl⟩
      · rw [ho] at hown
        exact va_new (own := RL) (ci := 5) (fs := [.null, .null, .null, .null, .int 0]) (C := RX5) (T := TX5) (N := 5) hx hb hts (dp_wd_lays (c := 5) rfl) tyX5 tyX5_ok hown (hts _ (dp_wd_x0 10 rfl)) (hts _ (dp_wd_x0 11 rfl)) (hts _ (dp_wd_init (k := 5) (by decide))) hG.1 h4 h5 h6 hG.2.2.2.2.2.2.2.2.2.1 rfl (fun j hj => by rcases (show j = 0 ∨ j = 1 ∨ j = 2 ∨ j = 3 ∨ j = 4 by omega) with rfl | rfl | rfl | rfl | rfl <;> rfl) (by rw [hRc]; exact q3) (by rw [hRs]; exact q4) hd (fun q9 H1 e1 e2 e3 => key q9 H1 _ rfl e1 e2 e3)
      · rw [ho] at hown
        exact va_new (own := RL) (ci := 4) (fs := [.int 0, .int 0, .int 0, .null, .null]) (C := RX4) (T := TX4) (N := 5) hx hb hts (dp_wd_lays (c := 4) rfl) tyX4 tyX4_ok hown (hts _ (dp_wd_x0 12 rfl)) (hts _ (dp_wd_x0 13 rfl)) (hts _ (dp_wd_init (k := 4) (by decide))) hG.1 h4 h5 h6 hG.2.2.2.2.2.2.2.2.2.1 rfl (fun j hj => by rcases (show j = 0 ∨ j = 1 ∨ j = 2 ∨ j = 3 ∨ j = 4 by omega) with rfl | rfl | rfl | rfl | rfl <;> rfl) (by rw [hRc]; exact q3) (by rw [hRs]; exact q4) hd (fun q9 H1 e1 e2 e3 => key q9 H1 _ rfl e1 e2 e3)
  | _ => exact h.elim
end DPU
