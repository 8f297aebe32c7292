/-! The law's own bureau: its helpers, and what only reads. (written by wip/p28/sim1.py) -/
theorem and_nn (v : Int32) : ¬ (v &&& nI 2147483647) < 0 := by
  intro h
  have h1 := Int32.lt_iff_toInt_lt.mp h
  have e : (v &&& nI 2147483647).toInt = ((v &&& nI 2147483647).toBitVec).toInt := rfl
  have hm : ((v &&& nI 2147483647).toBitVec).msb = false := by
    rw [Int32.toBitVec_and, BitVec.msb_and, show (nI 2147483647).toBitVec.msb = false by decide +kernel, Bool.and_false]
  rw [e, BitVec.toInt_eq_toNat_of_msb hm] at h1
  have h0 : (0 : Int32).toInt = 0 := rfl
  omega
theorem nI_rem {j m : Nat} (hj : j < 2 ^ 31) (h0 : 0 < m) (hm : m < 2 ^ 31) : nI j - nI j / nI m * nI m = nI (j % m) := by
  rw [pk_div (by omega) (by omega) (by omega), pk_mul, pk_sub (Nat.div_mul_le_self j m)]
  congr 1
  have e := Nat.div_add_mod' j m
  generalize j / m * m = t at *
  omega
set_option maxRecDepth 100000 in
set_option maxHeartbeats 4000000 in
theorem sp_L_below {X : dp_X} {d n : Nat} {M : dp_M} {o : dp_O} {Q : dp_Q} (h65 : 65 ≤ n) (v : Int32) (m : Nat) (h0 : 0 < m) (hm : m < 2 ^ 31) (h : ∀ k, k < m → Q (.inl (some (.int (nI k)))) M o) : dp_run X (d + 0 + 1) 71 [.int v, .int (nI m)] n M o Q := by
  apply k_run
  intro K hK
  rw [mL_71]
  show K 0 [some (.int v), some (.int (nI m))] [] n 0 0 M o
  refine k_iload_n hK ti_71_0 rfl ?_
  refine k_ldc (x := nI 2147483647) hK ti_71_1 (by rw [ow_71]; exact lci_7) ?_
  refine k_iand hK (z := (v &&& nI 2147483647)) ti_71_3 rfl ?_
  obtain ⟨j, hj, ej⟩ := nI_of (and_nn v)
  rw [ej]
  refine k_iload_n hK ti_71_4 rfl ?_
  refine k_irem hK (z := (nI (j % m))) ti_71_5 (nI_ne0 (by omega) (by omega)) (nI_rem hj h0 hm) ?_
  refine k_ireturn hK ti_71_6 rk_71 mc_71 ms_71 (by omega) (by omega) ?_
  exact h _ (Nat.mod_lt _ h0)

set_option maxRecDepth 100000 in
set_option maxHeartbeats 4000000 in
theorem sp_L_cell {X : dp_X} {d n : Nat} {M : dp_M} {o : dp_O} {Q : dp_Q} (h65 : 65 ≤ n) (j : Nat) (hj : j < 2 ^ 30) (hX : X.1 < 2 ^ 31) (h : ∀ x, Q (.inl (some (.int x))) M o) : dp_run X (d + 0 + 1) 72 [.ref 1000, .int (nI j)] n M o Q := by
  apply k_run
  intro K hK
  rw [mL_72]
  show K 0 [some (.ref 1000), some (.int (nI j))] [] n 0 0 M o
  refine k_iload_n hK ti_72_0 rfl ?_
  refine k_aload_n hK ti_72_1 rfl ?_
  refine k_slen hK ti_72_2 ?_
  refine kn_ge hK (by omega) (by omega) ti_72_3 jt_3_9 (fun c_3 => ?_) (fun c_3 => ?_)
  · refine k_aload_n hK ti_72_6 rfl ?_
    refine k_iload_n hK ti_72_7 rfl ?_
    refine k_sald hK j ti_72_8 rfl (by omega) hX ?_
    refine k_goto hK ti_72_9 jt_9_9 ?_
    refine k_ireturn hK ti_72_18 rk_72 mc_72 ms_72 (by omega) (by omega) ?_
    exact h _
  · refine k_ldc (x := nI 790386105) hK ti_72_12 (by rw [ow_72]; exact lci_8) ?_
    refine k_iload_n hK ti_72_14 rfl ?_
    refine k_iconst hK ti_72_15 kI_3 ?_
    refine k_iadd hK (z := (nI (j + 3))) ti_72_16 (nI_add _ _) ?_
    refine k_imul hK (z := (nI (790386105 * (j + 3)))) ti_72_17 (pk_mul _ _) ?_
    refine k_ireturn hK ti_72_18 rk_72 mc_72 ms_72 (by omega) (by omega) ?_
    exact h _

set_option maxRecDepth 100000 in
set_option maxHeartbeats 4000000 in
theorem sp_L_more {X : dp_X} {d n : Nat} {M : dp_M} {o : dp_O} {Q : dp_Q} (h65 : 65 ≤ n) (p m : Nat) (v : Nat → Int32) (x : Int32) (hm : m ≤ 12) (hP : IA o p m v) (h : ∀ r o1, o r = none → Kp o o1 → IA o1 r (m + 1) (fun k => if k = m then x else v k) → Q (.inl (some (.ref r))) M o1) : dp_run X (d + 0 + 1) 73 [.ref p, .int x] n M o Q := by
  apply k_run
  intro K hK
  rw [mL_73]
  show K 0 [some (.ref p), some (.int x), none, none] [] n 0 0 M o
  refine k_aload_n hK ti_73_0 rfl ?_
  refine n_alenI hK ti_73_1 hP ?_
  refine k_iconst hK ti_73_2 kI_1 ?_
  refine k_iadd hK (z := (nI (m + 1))) ti_73_3 (nI_add _ _) ?_
  refine n_newI hK (m + 1) ti_73_4 mc_73 ms_73 rfl (by omega) (by omega) (by omega) (fun r o_4 f_4 k_4 a_4 => ?_)
  have hP0 := hP
  refine k_astore_n hK (L' := [some (.ref p), some (.int _), some (.ref r), none]) ti_73_6 rfl ?_
  refine k_iconst hK ti_73_7 kI_0 ?_
  refine k_istore_n hK (L' := [some (.ref p), some (.int _), some (.ref r), some (.int _)]) ti_73_8 rfl ?_
  have loop : ∀ (f i : Nat) (o1 : dp_O), i ≤ m → m - i < f → (Kp o o1) → (IA o1 r (m + 1) (fun k => if k < i then v k else nI 0)) → (IA o1 p m v) → K 9 [some (.ref p), some (.int x), some (.ref r), some (.int (nI i))] [] n (0 + 1) (0 + (m + 1)) M o1 := by
    intro f
    induction f with
    | zero => intro i o1 h1 h2; omega
    | succ f ih =>
      intro i o1 h1 h2 hk hr hP
      refine k_iload_n hK ti_73_9 rfl ?_
      refine k_aload_n hK ti_73_10 rfl ?_
      refine n_alenI hK ti_73_11 hP ?_
      refine kn_ge hK (by omega) (by omega) ti_73_12 jt_12_15 (fun c_12 => ?_) (fun c_12 => ?_)
      · refine k_aload_n hK ti_73_15 rfl ?_
        refine k_iload_n hK ti_73_16 rfl ?_
        refine k_aload_n hK ti_73_17 rfl ?_
        refine k_iload_n hK ti_73_18 rfl ?_
        refine n_iald hK ((v i)) i ti_73_19 hP (by omega) rfl (by omega) rfl ?_
        refine n_iast hK i ti_73_20 hr (by omega) rfl (by omega) (fun o_20 w_20 a_20 => ?_)
        refine k_iinc hK (L' := [some (.ref p), some (.int _), some (.ref r), some (.int (nI (i + 1)))]) ti_73_21 rfl (by rw [kI_1, nI_add]) rfl ?_
        refine k_goto hK ti_73_24 jt_24_m15 ?_
        exact ih (i + 1) _ (by omega) (by omega) (hk.wr f_4 w_20) (a_20.congr (fun k hk9 => by by_cases e1 : k = i; (subst e1; rw [if_pos rfl, if_pos (Nat.lt_succ_self _)]); rw [if_neg e1]; by_cases e2 : k < i; (rw [if_pos e2, if_pos (show k < i + 1 by omega)]); rw [if_neg e2, if_neg (show ¬ k < i + 1 by omega)])) (hP0.kp (hk.wr f_4 w_20))
      · have e9 : i = m := by omega
        refine k_aload_n hK ti_73_27 rfl ?_
        refine k_aload_n hK ti_73_28 rfl ?_
        refine n_alenI hK ti_73_29 hP ?_
        refine k_iload_n hK ti_73_30 rfl ?_
        refine n_iast hK m ti_73_31 hr (by omega) rfl (by omega) (fun o_31 w_31 a_31 => ?_)
        refine k_aload_n hK ti_73_32 rfl ?_
        refine k_areturn hK ti_73_33 rk_73 (by decide) mc_73 ms_73 (by omega) (by omega) ?_
        refine h r o_31 f_4 (hk.wr f_4 w_31) (a_31.congr (fun k hk9 => ?_))
        by_cases e1 : k = m
        · rw [if_pos e1, if_pos e1]
        · rw [if_neg e1, if_neg e1]
          exact if_pos (by omega)
  exact loop (m - 0 + 1) 0 _ (by omega) (by omega) k_4 (a_4.congr (fun k hk9 => (if_neg (Nat.not_lt_zero k)).symm)) (hP0.kp k_4)

set_option maxRecDepth 100000 in
set_option maxHeartbeats 4000000 in
theorem sp_L_less {X : dp_X} {d n : Nat} {M : dp_M} {o : dp_O} {Q : dp_Q} (h65 : 65 ≤ n) (p m j : Nat) (v : Nat → Int32) (hm : m ≤ 12) (hj : j < m) (hP : IA o p m v) (h : ∀ r o1, o r = none → Kp o o1 → IA o1 r (m - 1) (fun k => if k < j then v k else v (k + 1)) → Q (.inl (some (.ref r))) M o1) : dp_run X (d + 0 + 1) 74 [.ref p, .int (nI j)] n M o Q := by
  apply k_run
  intro K hK
  rw [mL_74]
  show K 0 [some (.ref p), some (.int (nI j)), none, none] [] n 0 0 M o
  refine k_aload_n hK ti_74_0 rfl ?_
  refine n_alenI hK ti_74_1 hP ?_
  refine k_iconst hK ti_74_2 kI_1 ?_
  refine k_isub hK (z := (nI (m - 1))) ti_74_3 (pk_sub (by omega)) ?_
  refine n_newI hK (m - 1) ti_74_4 mc_74 ms_74 rfl (by omega) (by omega) (by omega) (fun r o_4 f_4 k_4 a_4 => ?_)
  have hP0 := hP
  refine k_astore_n hK (L' := [some (.ref p), some (.int _), some (.ref r), none]) ti_74_6 rfl ?_
  refine k_iconst hK ti_74_7 kI_0 ?_
  refine k_istore_n hK (L' := [some (.ref p), some (.int _), some (.ref r), some (.int _)]) ti_74_8 rfl ?_
  have loop : ∀ (f i : Nat) (o1 : dp_O), i ≤ (m - 1) → (m - 1) - i < f → (Kp o o1) → (IA o1 r (m - 1) (fun k => if k < i then (if k < j then v k else v (k + 1)) else nI 0)) → (IA o1 p m v) → K 9 [some (.ref p), some (.int (nI j)), some (.ref r), some (.int (nI i))] [] n (0 + 1) (0 + (m - 1)) M o1 := by
    intro f
    induction f with
    | zero => intro i o1 h1 h2; omega
    | succ f ih =>
      intro i o1 h1 h2 hk hr hP
      refine k_iload_n hK ti_74_9 rfl ?_
      refine k_aload_n hK ti_74_10 rfl ?_
      refine n_alenI hK ti_74_11 hr ?_
      refine kn_ge hK (by omega) (by omega) ti_74_12 jt_12_26 (fun c_12 => ?_) (fun c_12 => ?_)
      · refine k_aload_n hK ti_74_15 rfl ?_
        refine k_iload_n hK ti_74_16 rfl ?_
        refine k_aload_n hK ti_74_17 rfl ?_
        refine k_iload_n hK ti_74_18 rfl ?_
        refine k_iload_n hK ti_74_19 rfl ?_
        refine kn_ge hK (by omega) (by omega) ti_74_20 jt_20_7 (fun c_20 => ?_) (fun c_20 => ?_)
        · have e9 : (if i < j then v i else v (i + 1)) = v i := if_pos c_20
          refine k_iload_n hK ti_74_23 rfl ?_
          refine k_goto hK ti_74_24 jt_24_6 ?_
          refine n_iald hK ((v i)) i ti_74_30 hP (by omega) rfl (by omega) rfl ?_
          refine n_iast hK i ti_74_31 hr (by omega) rfl (by omega) (fun o_31 w_31 a_31 => ?_)
          refine k_iinc hK (L' := [some (.ref p), some (.int _), some (.ref r), some (.int (nI (i + 1)))]) ti_74_32 rfl (by rw [kI_1, nI_add]) rfl ?_
          refine k_goto hK ti_74_35 jt_35_m26 ?_
          exact ih (i + 1) _ (by omega) (by omega) (hk.wr f_4 w_31) (a_31.congr (fun k hk9 => by by_cases e1 : k = i; (subst e1; rw [if_pos rfl, if_pos (Nat.lt_succ_self _), e9]); rw [if_neg e1]; by_cases e2 : k < i; (rw [if_pos e2, if_pos (show k < i + 1 by omega)]); rw [if_neg e2, if_neg (show ¬ k < i + 1 by omega)])) (hP0.kp (hk.wr f_4 w_31))
        · have e9 : (if i < j then v i else v (i + 1)) = v (i + 1) := if_neg c_20
          refine k_iload_n hK ti_74_27 rfl ?_
          refine k_iconst hK ti_74_28 kI_1 ?_
          refine k_iadd hK (z := (nI (i + 1))) ti_74_29 (nI_add _ _) ?_
          refine n_iald hK ((v (i + 1))) (i + 1) ti_74_30 hP (by omega) rfl (by omega) rfl ?_
          refine n_iast hK i ti_74_31 hr (by omega) rfl (by omega) (fun o_31 w_31 a_31 => ?_)
          refine k_iinc hK (L' := [some (.ref p), some (.int _), some (.ref r), some (.int (nI (i + 1)))]) ti_74_32 rfl (by rw [kI_1, nI_add]) rfl ?_
          refine k_goto hK ti_74_35 jt_35_m26 ?_
          exact ih (i + 1) _ (by omega) (by omega) (hk.wr f_4 w_31) (a_31.congr (fun k hk9 => by by_cases e1 : k = i; (subst e1; rw [if_pos rfl, if_pos (Nat.lt_succ_self _), e9]); rw [if_neg e1]; by_cases e2 : k < i; (rw [if_pos e2, if_pos (show k < i + 1 by omega)]); rw [if_neg e2, if_neg (show ¬ k < i + 1 by omega)])) (hP0.kp (hk.wr f_4 w_31))
      · obtain rfl : i = m - 1 := by omega
        refine k_aload_n hK ti_74_38 rfl ?_
        refine k_areturn hK ti_74_39 rk_74 (by decide) mc_74 ms_74 (by omega) (by omega) ?_
        exact h r o1 f_4 hk (hr.congr (fun k hk9 => if_pos hk9))
  exact loop ((m - 1) - 0 + 1) 0 _ (by omega) (by omega) k_4 (a_4.congr (fun k hk9 => (if_neg (Nat.not_lt_zero k)).symm)) (hP0.kp k_4)

set_option maxRecDepth 100000 in
set_option maxHeartbeats 4000000 in
theorem sp_X5_table {X : dp_X} {d n : Nat} {M : dp_M} {o : dp_O} {Q : dp_Q} (h65 : 65 ≤ n) {S hs hw ha hc : Nat} {W C V B : Nat → Nat} {s : GSt} {l : LSt} (a : Nat) (hW : GW s) (hR : SR o S hs hw ha hc W C V B s l) (ha9 : a < g_nA s) (h : ∀ r o1, o r = none → Kp o o1 → IA o1 r 20 (fun x => nI (tm s a x)) → Q (.inl (some (.ref r))) M o1) : dp_run X (d + 0 + 1) 61 [.ref S, .int (nI a)] n M o Q := by
  apply k_run
  intro K hK
  rw [mL_61]
  show K 0 [some (.ref S), some (.int (nI a)), none, none, none, none, none] [] n 0 0 M o
  have hA16 := hW.1
  have hC6 := hW.2.1
  have hlen := hW.2.2.2.1 a (by omega)
  refine k_bipush hK ti_61_0 kB_20 ?_
  refine n_newI hK 20 ti_61_2 mc_61 ms_61 rfl (by omega) (by omega) (by omega) (fun r o_2 f_2 k_2 a_2 => ?_)
  have hR0 := hR
  replace hR := hR.kp k_2
  refine k_astore_n hK (L' := [some (.ref S), some (.int _), some (.ref r), none, none, none, none]) ti_61_4 rfl ?_
  refine k_aload_n hK ti_61_5 rfl ?_
  refine n_get hK (.ref hw) ti_61_6 ow_61 fd_5_14 hR.ob rfl ?_
  refine k_iload_n hK ti_61_9 rfl ?_
  refine n_aald hK a ti_61_10 hR.rw (by omega) rfl (by omega) ?_
  refine k_astore_n hK (L' := [some (.ref S), some (.int _), some (.ref r), some (.ref (W a)), none, none, none]) ti_61_11 rfl ?_
  refine k_aload_n hK ti_61_12 rfl ?_
  refine n_alenI hK ti_61_13 (hR.wd a (by omega)) ?_
  refine k_istore hK (L' := [some (.ref S), some (.int _), some (.ref r), some (.ref (W a)), some (.int _), none, none]) ti_61_14 rfl ?_
  refine k_iconst hK ti_61_16 kI_0 ?_
  refine k_istore hK (L' := [some (.ref S), some (.int _), some (.ref r), some (.ref (W a)), some (.int _), some (.int _), none]) ti_61_17 rfl ?_
  have loop : ∀ (f i : Nat) (u : Option Value) (o1 : dp_O), i ≤ (g_len s a) → (g_len s a) - i < f → (Kp o o1) → (IA o1 r 20 (fun x => nI (tmi s a x i))) → (SR o1 S hs hw ha hc W C V B s l) → K 19 [some (.ref S), some (.int (nI a)), some (.ref r), some (.ref (W a)), some (.int (nI (g_len s a))), some (.int (nI i)), u] [] n (0 + 1) (0 + 20) M o1 := by
    intro f
    induction f with
    | zero => intro i u o1 h1 h2; omega
    | succ f ih =>
      intro i u o1 h1 h2 hk hr hR
      refine k_iload hK ti_61_19 rfl ?_
      refine k_iload hK ti_61_21 rfl ?_
      refine kn_ge hK (by omega) (by omega) ti_61_23 jt_23_28 (fun c_23 => ?_) (fun c_23 => ?_)
      · have hw40 := hW.2.2.2.2.1 a i (by omega) c_23
        have hs20 := hW.2.2.1 (g_wd s a i) hw40
        have htm : tmi s a (g_st s (g_wd s a i)) i ≤ i := cnt_le _ _
        refine k_aload_n hK ti_61_26 rfl ?_
        refine k_iload hK ti_61_27 rfl ?_
        refine n_iald hK ((nI (g_wd s a i))) i ti_61_29 (hR.wd a (by omega)) (by omega) rfl (by omega) rfl ?_
        refine k_istore hK (L' := [some (.ref S), some (.int _), some (.ref r), some (.ref (W a)), some (.int _), some (.int _), some (.int _)]) ti_61_30 rfl ?_
        refine k_aload_n hK ti_61_32 rfl ?_
        refine k_aload_n hK ti_61_33 rfl ?_
        refine n_get hK (.ref hs) ti_61_34 ow_61 fd_5_7 hR.ob rfl ?_
        refine k_iload hK ti_61_37 rfl ?_
        refine n_iald hK ((nI (g_st s (g_wd s a i)))) (g_wd s a i) ti_61_39 hR.st (by omega) rfl (by omega) rfl ?_
        refine k_dup2 hK ti_61_40 rfl rfl ?_
        refine n_iald hK ((nI (tmi s a (g_st s (g_wd s a i)) i))) (g_st s (g_wd s a i)) ti_61_41 hr (by omega) rfl (by omega) rfl ?_
        refine k_iconst hK ti_61_42 kI_1 ?_
        refine k_iadd hK (z := (nI (tmi s a (g_st s (g_wd s a i)) (i + 1)))) ti_61_43 (by rw [nI_add, tmi_t rfl]) ?_
        refine n_iast hK (g_st s (g_wd s a i)) ti_61_44 hr (by omega) rfl (by omega) (fun o_44 w_44 a_44 => ?_)
        refine k_iinc hK (L' := [some (.ref S), some (.int _), some (.ref r), some (.ref (W a)), some (.int _), some (.int (nI (i + 1))), some (.int _)]) ti_61_45 rfl (by rw [kI_1, nI_add]) rfl ?_
        refine k_goto hK ti_61_48 jt_48_m29 ?_
        exact ih (i + 1) _ _ (by omega) (by omega) (hk.wr f_2 w_44) (a_44.congr (fun x hx => by by_cases e1 : x = g_st s (g_wd s a i); (rw [if_pos e1, e1]); rw [if_neg e1, tmi_f (fun z => e1 z.symm)])) (hR0.kp (hk.wr f_2 w_44))
      · obtain rfl : i = g_len s a := by omega
        refine k_aload_n hK ti_61_51 rfl ?_
        refine k_areturn hK ti_61_52 rk_61 (by decide) mc_61 ms_61 (by omega) (by omega) ?_
        exact h r o1 f_2 hk hr
  exact loop ((g_len s a) - 0 + 1) 0 _ _ (by omega) (by omega) k_2 (a_2.congr (fun _ _ => rfl)) hR

set_option maxRecDepth 100000 in
set_option maxHeartbeats 4000000 in
theorem sp_X5_rarities {X : dp_X} {d n : Nat} {M : dp_M} {o : dp_O} {Q : dp_Q} (h65 : 65 ≤ n) {S hs hw ha hc : Nat} {W C V B : Nat → Nat} {s : GSt} {l : LSt} (hW : GW s) (hR : SR o S hs hw ha hc W C V B s l) (h : ∀ r o1, o r = none → Kp o o1 → IA o1 r 20 (fun x => nI (rar s x)) → Q (.inl (some (.ref r))) M o1) : dp_run X (d + 1 + 1) 62 [.ref S] n M o Q := by
  apply k_run
  intro K hK
  rw [mL_62]
  show K 0 [some (.ref S), none, none, none, none] [] n 0 0 M o
  have hA16 := hW.1
  have hC6 := hW.2.1
  refine k_bipush hK ti_62_0 kB_20 ?_
  refine n_newI hK 20 ti_62_2 mc_62 ms_62 rfl (by omega) (by omega) (by omega) (fun r o_2 f_2 k_2 a_2 => ?_)
  have hR0 := hR
  replace hR := hR.kp k_2
  refine k_astore_n hK (L' := [some (.ref S), some (.ref r), none, none, none]) ti_62_4 rfl ?_
  refine k_iconst hK ti_62_5 kI_0 ?_
  refine k_istore_n hK (L' := [some (.ref S), some (.ref r), some (.int _), none, none]) ti_62_6 rfl ?_
  have loop : ∀ (f i : Nat) (u : Option Value) (v : Option Value) (o1 : dp_O), i ≤ (g_nA s) → (g_nA s) - i < f → (Kp o o1) → (IA o1 r 20 (fun x => nI (hvi s x i))) → (SR o1 S hs hw ha hc W C V B s l) → K 7 [some (.ref S), some (.ref r), some (.int (nI i)), u, v] [] n (1 + i) (20 + 20 * i) M o1 := by
    intro f
    induction f with
    | zero => intro i u v o1 h1 h2; omega
    | succ f ih =>
      intro i u v o1 h1 h2 hk hr hR
      refine k_iload_n hK ti_62_7 rfl ?_
      refine k_aload_n hK ti_62_8 rfl ?_
      refine n_get hK (.ref hw) ti_62_9 ow_62 fd_5_14 hR.ob rfl ?_
      refine n_alenR hK ti_62_12 hR.rw ?_
      refine kn_ge hK (by omega) (by omega) ti_62_13 jt_13_50 (fun c_13 => ?_) (fun c_13 => ?_)
      · refine k_aload_n hK ti_62_16 rfl ?_
        refine k_iload_n hK ti_62_17 rfl ?_
        refine k_callVd hK (as := [.int _]) (st' := []) ti_62_18 ow_62 iv_5_40 mc_62 ms_62 rfl rfl (by omega) (Nat.le_of_ble_eq_true rfl) (Nat.le_of_ble_eq_true rfl) (by omega) (by omega) hR.ob ?_
        refine sp_X5_table (by omega) i hW hR (by omega) (fun t o_t f_t k_t a_t => ?_)
        have hk2 := hk.trans k_t
        have hR2 := hR0.kp hk2
        have hr2 := hr.kp k_t
        have hnr : r ≠ t := sm_ne hr.sm f_t
        refine k_astore_n hK (L' := [some (.ref S), some (.ref r), some (.int _), some (.ref t), v]) ti_62_21 rfl ?_
        refine k_iconst hK ti_62_22 kI_0 ?_
        refine k_istore hK (L' := [some (.ref S), some (.ref r), some (.int _), some (.ref t), some (.int _)]) ti_62_23 rfl ?_
        have loopb : ∀ (fb j : Nat) (o3 : dp_O), j ≤ 20 → 20 - j < fb → (Kp o o3) → (IA o3 r 20 (fun x => if x < j then nI (hvi s x (i + 1)) else nI (hvi s x i))) → (IA o3 t 20 (fun x => nI (tm s i x))) → K 25 [some (.ref S), some (.ref r), some (.int (nI i)), some (.ref t), some (.int (nI j))] [] n (1 + i + 1) (20 + 20 * i + 20) M o3 := by
          intro fb
          induction fb with
          | zero => intro j o3 h1b h2b; omega
          | succ fb ihb =>
            intro j o3 h1b h2b hk3 hr3 ht
            refine k_iload hK ti_62_25 rfl ?_
            refine k_bipush hK ti_62_27 kB_20 ?_
            refine kn_ge hK (by omega) (by omega) ti_62_29 jt_29_28 (fun c_29 => ?_) (fun c_29 => ?_)
            · have hhv : hvi s j i ≤ i := cnt_le _ _
              have htm := tm_le hW (show i < 16 by omega) j
              refine k_aload_n hK ti_62_32 rfl ?_
              refine k_iload hK ti_62_33 rfl ?_
              refine k_dup2 hK ti_62_35 rfl rfl ?_
              refine n_iald hK ((nI (hvi s j i))) j ti_62_36 hr3 (by omega) rfl (by omega) (if_neg (Nat.lt_irrefl _)) ?_
              refine k_aload_n hK ti_62_37 rfl ?_
              refine k_iload hK ti_62_38 rfl ?_
              refine n_iald hK ((nI (tm s i j))) j ti_62_40 ht (by omega) rfl (by omega) rfl ?_
              refine kz_le hK (by omega) ti_62_41 jt_41_7 (fun c_41 => ?_) (fun c_41 => ?_)
              · refine k_iconst hK ti_62_44 kI_1 ?_
                refine k_goto hK ti_62_45 jt_45_4 ?_
                refine k_iadd hK (z := (nI (hvi s j (i + 1)))) ti_62_49 (by rw [nI_add, hvi_t c_41]) ?_
                refine n_iast hK j ti_62_50 hr3 (by omega) rfl (by omega) (fun o_50 w_50 a_50 => ?_)
                refine k_iinc hK (L' := [some (.ref S), some (.ref r), some (.int _), some (.ref t), some (.int (nI (j + 1)))]) ti_62_51 rfl (by rw [kI_1, nI_add]) rfl ?_
                refine k_goto hK ti_62_54 jt_54_m29 ?_
                exact ihb (j + 1) _ (by omega) (by omega) (hk3.wr f_2 w_50) (a_50.congr (fun x hx => by by_cases e1 : x = j; (subst e1; rw [if_pos rfl, if_pos (Nat.lt_succ_self _)]); rw [if_neg e1]; by_cases e2 : x < j; (rw [if_pos e2, if_pos (show x < j + 1 by omega)]); rw [if_neg e2, if_neg (show ¬ x < j + 1 by omega)])) (ht.wr w_50 hnr.symm)
              · refine k_iconst hK ti_62_48 kI_0 ?_
                refine k_iadd hK (z := (nI (hvi s j (i + 1)))) ti_62_49 (by rw [nI_add, Nat.add_zero, hvi_f c_41]) ?_
                refine n_iast hK j ti_62_50 hr3 (by omega) rfl (by omega) (fun o_50 w_50 a_50 => ?_)
                refine k_iinc hK (L' := [some (.ref S), some (.ref r), some (.int _), some (.ref t), some (.int (nI (j + 1)))]) ti_62_51 rfl (by rw [kI_1, nI_add]) rfl ?_
                refine k_goto hK ti_62_54 jt_54_m29 ?_
                exact ihb (j + 1) _ (by omega) (by omega) (hk3.wr f_2 w_50) (a_50.congr (fun x hx => by by_cases e1 : x = j; (subst e1; rw [if_pos rfl, if_pos (Nat.lt_succ_self _)]); rw [if_neg e1]; by_cases e2 : x < j; (rw [if_pos e2, if_pos (show x < j + 1 by omega)]); rw [if_neg e2, if_neg (show ¬ x < j + 1 by omega)])) (ht.wr w_50 hnr.symm)
            · obtain rfl : j = 20 := by omega
              refine k_iinc hK (L' := [some (.ref S), some (.ref r), some (.int (nI (i + 1))), some (.ref t), some (.int _)]) ti_62_57 rfl (by rw [kI_1, nI_add]) rfl ?_
              refine k_goto hK ti_62_60 jt_60_m53 ?_
              refine k_wid hK (c' := 1 + (i + 1)) (q' := 20 + 20 * (i + 1)) (by omega) (by omega) ?_
              exact ih (i + 1) _ _ _ (by omega) (by omega) hk3 (hr3.congr (fun x hx => if_pos hx)) (hR0.kp hk3)
        exact loopb (20 - 0 + 1) 0 _ (by omega) (by omega) hk2 (hr2.congr (fun x hx => (if_neg (Nat.not_lt_zero x)).symm)) a_t
      · obtain rfl : i = g_nA s := by omega
        refine k_iconst hK ti_62_63 kI_0 ?_
        refine k_istore_n hK (L' := [some (.ref S), some (.ref r), some (.int _), u, v]) ti_62_64 rfl ?_
        have loopc : ∀ (fc k : Nat) (o3 : dp_O), k ≤ 20 → 20 - k < fc → (Kp o o3) → (IA o3 r 20 (fun x => if x < k then nI (rar s x) else nI (hvn s x))) → (SR o3 S hs hw ha hc W C V B s l) → K 65 [some (.ref S), some (.ref r), some (.int (nI k)), u, v] [] n (1 + g_nA s) (20 + 20 * g_nA s) M o3 := by
          intro fc
          induction fc with
          | zero => intro k o3 h1c h2c; omega
          | succ fc ihc =>
            intro k o3 h1c h2c hk3 hr3 hR
            refine k_iload_n hK ti_62_65 rfl ?_
            refine k_bipush hK ti_62_66 kB_20 ?_
            refine kn_ge hK (by omega) (by omega) ti_62_68 jt_68_29 (fun c_68 => ?_) (fun c_68 => ?_)
            · have hhv2 : hvn s k ≤ g_nA s := cnt_le _ _
              refine k_aload_n hK ti_62_71 rfl ?_
              refine k_iload_n hK ti_62_72 rfl ?_
              refine k_bipush hK ti_62_73 kB_10 ?_
              refine k_aload_n hK ti_62_75 rfl ?_
              refine n_get hK (.ref hw) ti_62_76 ow_62 fd_5_14 hR.ob rfl ?_
              refine n_alenR hK ti_62_79 hR.rw ?_
              refine k_imul hK (z := (nI (10 * (g_nA s)))) ti_62_80 (pk_mul _ _) ?_
              refine k_bipush hK ti_62_81 kB_10 ?_
              refine k_iadd hK (z := (nI (10 * g_nA s + 10))) ti_62_83 (nI_add _ _) ?_
              refine k_aload_n hK ti_62_84 rfl ?_
              refine k_iload_n hK ti_62_85 rfl ?_
              refine n_iald hK ((nI (hvn s k))) k ti_62_86 hr3 (by omega) rfl (by omega) (if_neg (Nat.lt_irrefl _)) ?_
              refine k_iconst hK ti_62_87 kI_1 ?_
              refine k_iadd hK (z := (nI (hvn s k + 1))) ti_62_88 (nI_add _ _) ?_
              refine k_idiv hK (z := (nI (rar s k))) ti_62_89 (nI_ne0 (by omega) (by omega)) (by rw [pk_div (by omega) (by omega) (by omega)]; exact congrArg (fun z => nI (z / (hvn s k + 1))) (by omega)) ?_
              refine n_iast hK k ti_62_90 hr3 (by omega) rfl (by omega) (fun o_90 w_90 a_90 => ?_)
              refine k_iinc hK (L' := [some (.ref S), some (.ref r), some (.int (nI (k + 1))), u, v]) ti_62_91 rfl (by rw [kI_1, nI_add]) rfl ?_
              refine k_goto hK ti_62_94 jt_94_m29 ?_
              exact ihc (k + 1) _ (by omega) (by omega) (hk3.wr f_2 w_90) (a_90.congr (fun x hx => by by_cases e1 : x = k; (subst e1; rw [if_pos rfl, if_pos (Nat.lt_succ_self _)]); rw [if_neg e1]; by_cases e2 : x < k; (rw [if_pos e2, if_pos (show x < k + 1 by omega)]); rw [if_neg e2, if_neg (show ¬ x < k + 1 by omega)])) (hR0.kp (hk3.wr f_2 w_90))
            · obtain rfl : k = 20 := by omega
              refine k_aload_n hK ti_62_97 rfl ?_
              refine k_areturn hK ti_62_98 rk_62 (by decide) mc_62 ms_62 (by omega) (by omega) ?_
              exact h r o3 f_2 hk3 (hr3.congr (fun x hx => if_pos hx))
        exact loopc (20 - 0 + 1) 0 _ (by omega) (by omega) hk (hr.congr (fun x hx => (if_neg (Nat.not_lt_zero x)).symm)) hR
  refine k_wid hK (c' := 1 + 0) (q' := 20 + 20 * 0) (by omega) (by omega) ?_
  exact loop ((g_nA s) - 0 + 1) 0 _ _ _ (by omega) (by omega) k_2 (a_2.congr (fun _ _ => rfl)) hR

set_option maxRecDepth 100000 in
set_option maxHeartbeats 4000000 in
theorem sp_X5_score {X : dp_X} {d n : Nat} {M : dp_M} {o : dp_O} {Q : dp_Q} (h65 : 65 ≤ n) {S hs hw ha hc : Nat} {W C V B : Nat → Nat} {s : GSt} {l : LSt} (c a t u : Nat) (age : Int32) (hW : GW s) (hR : SR o S hs hw ha hc W C V B s l) (hc9 : c < g_nC s) (ha9 : a < 16) (hT : IA o t 20 (fun x => nI (tm s a x))) (hU : IA o u 20 (fun x => nI (rar s x))) (h : Q (.inl (some (.int (scw s (g_wish s c) (g_many s c) a age)))) M o) : dp_run X (d + 0 + 1) 63 [.ref S, .ref (C c), .ref t, .ref u, .int age] n M o Q := by
  apply k_run
  intro K hK
  rw [mL_63]
  show K 0 [some (.ref S), some (.ref (C c)), some (.ref t), some (.ref u), some (.int age), none, none, none, none, none, none] [] n 0 0 M o
  have hA16 := hW.1
  have hC6 := hW.2.1
  have hm5 := hW.2.2.2.2.2.1 c (by omega)
  refine k_iconst hK ti_63_0 kI_0 ?_
  refine k_istore hK (L' := [some (.ref S), some (.ref (C c)), some (.ref t), some (.ref u), some (.int _), some (.int _), none, none, none, none, none]) ti_63_1 rfl ?_
  refine k_aload_n hK ti_63_3 rfl ?_
  refine n_get hK (.ref (V c)) ti_63_4 ow_63 fd_5_44 (hR.cl c (by omega)) rfl ?_
  refine n_alenI hK ti_63_7 (hR.wi c (by omega)) ?_
  refine k_iconst hK ti_63_8 kI_1 ?_
  refine kn_le hK (by omega) (by omega) ti_63_9 jt_9_7 (fun c_9 => ?_) (fun c_9 => ?_)
  · refine k_iconst hK ti_63_12 kI_1 ?_
    refine k_goto hK ti_63_13 jt_13_4 ?_
    refine k_istore hK (L' := [some (.ref S), some (.ref (C c)), some (.ref t), some (.ref u), some (.int _), some (.int _), some (.int _), none, none, none, none]) ti_63_17 rfl ?_
    refine k_aload_n hK ti_63_19 rfl ?_
    refine n_get hK (.ref (V c)) ti_63_20 ow_63 fd_5_44 (hR.cl c (by omega)) rfl ?_
    refine k_astore hK (L' := [some (.ref S), some (.ref (C c)), some (.ref t), some (.ref u), some (.int _), some (.int _), some (.int _), some (.ref (V c)), none, none, none]) ti_63_23 rfl ?_
    refine k_aload hK ti_63_25 rfl ?_
    refine n_alenI hK ti_63_27 (hR.wi c (by omega)) ?_
    refine k_istore hK (L' := [some (.ref S), some (.ref (C c)), some (.ref t), some (.ref u), some (.int _), some (.int _), some (.int _), some (.ref (V c)), some (.int _), none, none]) ti_63_28 rfl ?_
    refine k_iconst hK ti_63_30 kI_0 ?_
    refine k_istore hK (L' := [some (.ref S), some (.ref (C c)), some (.ref t), some (.ref u), some (.int _), some (.int _), some (.int _), some (.ref (V c)), some (.int _), some (.int _), none]) ti_63_31 rfl ?_
    have loop : ∀ (f i : Nat) (u1 : Option Value) (b6 : Int32), i ≤ (g_many s c) → (g_many s c) - i < f → (b6 = bl (decide (2 ≤ g_many s c ∧ fnd s (g_wish s c) i a = i))) → K 33 [some (.ref S), some (.ref (C c)), some (.ref t), some (.ref u), some (.int age), some (.int (nI (pts s (g_wish s c) i a))), some (.int b6), some (.ref (V c)), some (.int (nI (g_many s c))), some (.int (nI i)), u1] [] n 0 0 M o := by
      intro f
      induction f with
      | zero => intro i u1 b6 h1 h2; omega
      | succ f ih =>
        intro i u1 b6 h1 h2 hb
        subst hb
        refine k_iload hK ti_63_33 rfl ?_
        refine k_iload hK ti_63_35 rfl ?_
        refine kn_ge hK (by omega) (by omega) ti_63_37 jt_37_61 (fun c_37 => ?_) (fun c_37 => ?_)
        · have hw20 := hW.2.2.2.2.2.2 c i (by omega) c_37
          have htm := tm_le hW ha9 (g_wish s c i)
          have hrr := rar_le hW (g_wish s c i)
          have hfu := fnd_up s (g_wish s c) i a
          refine k_aload hK ti_63_40 rfl ?_
          refine k_iload hK ti_63_42 rfl ?_
          refine n_iald hK ((nI (g_wish s c i))) i ti_63_44 (hR.wi c (by omega)) (by omega) rfl (by omega) rfl ?_
          refine k_istore hK (L' := [some (.ref S), some (.ref (C c)), some (.ref t), some (.ref u), some (.int _), some (.int _), some (.int _), some (.ref (V c)), some (.int _), some (.int _), some (.int _)]) ti_63_45 rfl ?_
          refine k_iload hK ti_63_47 rfl ?_
          refine kb_eq hK ti_63_49 jt_49_14 (fun c_49 => ?_) (fun c_49 => ?_)
          · have e6 : decide (2 ≤ g_many s c ∧ fnd s (g_wish s c) (i + 1) a = i + 1) = false := decide_eq_false (fun z => of_decide_eq_false c_49 ⟨z.1, by have := z.2; omega⟩)
            refine k_iconst hK ti_63_63 kI_0 ?_
            refine k_istore hK (L' := [some (.ref S), some (.ref (C c)), some (.ref t), some (.ref u), some (.int _), some (.int _), some (.int _), some (.ref (V c)), some (.int _), some (.int _), some (.int _)]) ti_63_64 rfl ?_
            refine k_iload hK ti_63_66 rfl ?_
            refine k_aload_n hK ti_63_68 rfl ?_
            refine k_iload hK ti_63_69 rfl ?_
            refine n_iald hK ((nI (rar s ((g_wish s c i))))) (g_wish s c i) ti_63_71 hU (by omega) rfl (by omega) rfl ?_
            refine k_aload_n hK ti_63_72 rfl ?_
            refine k_iload hK ti_63_73 rfl ?_
            refine n_iald hK ((nI (tm s a ((g_wish s c i))))) (g_wish s c i) ti_63_75 hT (by omega) rfl (by omega) rfl ?_
            refine k_iconst hK ti_63_76 kI_3 ?_
            refine kn_le hK (by omega) (by omega) ti_63_77 jt_77_7 (fun c_77 => ?_) (fun c_77 => ?_)
            · refine k_iconst hK ti_63_80 kI_3 ?_
              refine k_goto hK ti_63_81 jt_81_7 ?_
              refine k_imul hK (z := (nI (min 3 (tm s a (g_wish s c i)) * rar s (g_wish s c i)))) ti_63_88 (by rw [pk_mul, Nat.mul_comm, Nat.min_eq_left (by omega)]) ?_
              refine k_iadd hK (z := (nI (pts s (g_wish s c) (i + 1) a))) ti_63_89 (nI_add _ _) ?_
              refine k_istore hK (L' := [some (.ref S), some (.ref (C c)), some (.ref t), some (.ref u), some (.int _), some (.int _), some (.int _), some (.ref (V c)), some (.int _), some (.int _), some (.int _)]) ti_63_90 rfl ?_
              refine k_iinc hK (L' := [some (.ref S), some (.ref (C c)), some (.ref t), some (.ref u), some (.int _), some (.int _), some (.int _), some (.ref (V c)), some (.int _), some (.int (nI (i + 1))), some (.int _)]) ti_63_92 rfl (by rw [kI_1, nI_add]) rfl ?_
              refine k_goto hK ti_63_95 jt_95_m62 ?_
              exact ih (i + 1) _ _ (by omega) (by omega) (congrArg bl e6).symm
            · refine k_aload_n hK ti_63_84 rfl ?_
              refine k_iload hK ti_63_85 rfl ?_
              refine n_iald hK ((nI (tm s a ((g_wish s c i))))) (g_wish s c i) ti_63_87 hT (by omega) rfl (by omega) rfl ?_
              refine k_imul hK (z := (nI (min 3 (tm s a (g_wish s c i)) * rar s (g_wish s c i)))) ti_63_88 (by rw [pk_mul, Nat.mul_comm, Nat.min_eq_right (by omega)]) ?_
              refine k_iadd hK (z := (nI (pts s (g_wish s c) (i + 1) a))) ti_63_89 (nI_add _ _) ?_
              refine k_istore hK (L' := [some (.ref S), some (.ref (C c)), some (.ref t), some (.ref u), some (.int _), some (.int _), some (.int _), some (.ref (V c)), some (.int _), some (.int _), some (.int _)]) ti_63_90 rfl ?_
              refine k_iinc hK (L' := [some (.ref S), some (.ref (C c)), some (.ref t), some (.ref u), some (.int _), some (.int _), some (.int _), some (.ref (V c)), some (.int _), some (.int (nI (i + 1))), some (.int _)]) ti_63_92 rfl (by rw [kI_1, nI_add]) rfl ?_
              refine k_goto hK ti_63_95 jt_95_m62 ?_
              exact ih (i + 1) _ _ (by omega) (by omega) (congrArg bl e6).symm
          · refine k_aload_n hK ti_63_52 rfl ?_
            refine k_iload hK ti_63_53 rfl ?_
            refine n_iald hK ((nI (tm s a ((g_wish s c i))))) (g_wish s c i) ti_63_55 hT (by omega) rfl (by omega) rfl ?_
            refine kz_le hK (by omega) ti_63_56 jt_56_7 (fun c_56 => ?_) (fun c_56 => ?_)
            · have e6 : decide (2 ≤ g_many s c ∧ fnd s (g_wish s c) (i + 1) a = i + 1) = true := decide_eq_true ⟨(of_decide_eq_true c_49).1, by have h1 := (of_decide_eq_true c_49).2; have h2 : fnd s (g_wish s c) (i + 1) a = fnd s (g_wish s c) i a + 1 := cnt_t (by simp [c_56]); omega⟩
              refine k_iconst hK ti_63_59 kI_1 ?_
              refine k_goto hK ti_63_60 jt_60_4 ?_
              refine k_istore hK (L' := [some (.ref S), some (.ref (C c)), some (.ref t), some (.ref u), some (.int _), some (.int _), some (.int _), some (.ref (V c)), some (.int _), some (.int _), some (.int _)]) ti_63_64 rfl ?_
              refine k_iload hK ti_63_66 rfl ?_
              refine k_aload_n hK ti_63_68 rfl ?_
              refine k_iload hK ti_63_69 rfl ?_
              refine n_iald hK ((nI (rar s ((g_wish s c i))))) (g_wish s c i) ti_63_71 hU (by omega) rfl (by omega) rfl ?_
              refine k_aload_n hK ti_63_72 rfl ?_
              refine k_iload hK ti_63_73 rfl ?_
              refine n_iald hK ((nI (tm s a ((g_wish s c i))))) (g_wish s c i) ti_63_75 hT (by omega) rfl (by omega) rfl ?_
              refine k_iconst hK ti_63_76 kI_3 ?_
              refine kn_le hK (by omega) (by omega) ti_63_77 jt_77_7 (fun c_77 => ?_) (fun c_77 => ?_)
              · refine k_iconst hK ti_63_80 kI_3 ?_
                refine k_goto hK ti_63_81 jt_81_7 ?_
                refine k_imul hK (z := (nI (min 3 (tm s a (g_wish s c i)) * rar s (g_wish s c i)))) ti_63_88 (by rw [pk_mul, Nat.mul_comm, Nat.min_eq_left (by omega)]) ?_
                refine k_iadd hK (z := (nI (pts s (g_wish s c) (i + 1) a))) ti_63_89 (nI_add _ _) ?_
                refine k_istore hK (L' := [some (.ref S), some (.ref (C c)), some (.ref t), some (.ref u), some (.int _), some (.int _), some (.int _), some (.ref (V c)), some (.int _), some (.int _), some (.int _)]) ti_63_90 rfl ?_
                refine k_iinc hK (L' := [some (.ref S), some (.ref (C c)), some (.ref t), some (.ref u), some (.int _), some (.int _), some (.int _), some (.ref (V c)), some (.int _), some (.int (nI (i + 1))), some (.int _)]) ti_63_92 rfl (by rw [kI_1, nI_add]) rfl ?_
                refine k_goto hK ti_63_95 jt_95_m62 ?_
                exact ih (i + 1) _ _ (by omega) (by omega) (congrArg bl e6).symm
              · refine k_aload_n hK ti_63_84 rfl ?_
                refine k_iload hK ti_63_85 rfl ?_
                refine n_iald hK ((nI (tm s a ((g_wish s c i))))) (g_wish s c i) ti_63_87 hT (by omega) rfl (by omega) rfl ?_
                refine k_imul hK (z := (nI (min 3 (tm s a (g_wish s c i)) * rar s (g_wish s c i)))) ti_63_88 (by rw [pk_mul, Nat.mul_comm, Nat.min_eq_right (by omega)]) ?_
                refine k_iadd hK (z := (nI (pts s (g_wish s c) (i + 1) a))) ti_63_89 (nI_add _ _) ?_
                refine k_istore hK (L' := [some (.ref S), some (.ref (C c)), some (.ref t), some (.ref u), some (.int _), some (.int _), some (.int _), some (.ref (V c)), some (.int _), some (.int _), some (.int _)]) ti_63_90 rfl ?_
                refine k_iinc hK (L' := [some (.ref S), some (.ref (C c)), some (.ref t), some (.ref u), some (.int _), some (.int _), some (.int _), some (.ref (V c)), some (.int _), some (.int (nI (i + 1))), some (.int _)]) ti_63_92 rfl (by rw [kI_1, nI_add]) rfl ?_
                refine k_goto hK ti_63_95 jt_95_m62 ?_
                exact ih (i + 1) _ _ (by omega) (by omega) (congrArg bl e6).symm
            · have e6 : decide (2 ≤ g_many s c ∧ fnd s (g_wish s c) (i + 1) a = i + 1) = false := decide_eq_false (fun z => by have h1 := z.2; have h2 : fnd s (g_wish s c) (i + 1) a = fnd s (g_wish s c) i a := cnt_f (by simp [c_56]); omega)
              refine k_iconst hK ti_63_63 kI_0 ?_
              refine k_istore hK (L' := [some (.ref S), some (.ref (C c)), some (.ref t), some (.ref u), some (.int _), some (.int _), some (.int _), some (.ref (V c)), some (.int _), some (.int _), some (.int _)]) ti_63_64 rfl ?_
              refine k_iload hK ti_63_66 rfl ?_
              refine k_aload_n hK ti_63_68 rfl ?_
              refine k_iload hK ti_63_69 rfl ?_
              refine n_iald hK ((nI (rar s ((g_wish s c i))))) (g_wish s c i) ti_63_71 hU (by omega) rfl (by omega) rfl ?_
              refine k_aload_n hK ti_63_72 rfl ?_
              refine k_iload hK ti_63_73 rfl ?_
              refine n_iald hK ((nI (tm s a ((g_wish s c i))))) (g_wish s c i) ti_63_75 hT (by omega) rfl (by omega) rfl ?_
              refine k_iconst hK ti_63_76 kI_3 ?_
              refine kn_le hK (by omega) (by omega) ti_63_77 jt_77_7 (fun c_77 => ?_) (fun c_77 => ?_)
              · refine k_iconst hK ti_63_80 kI_3 ?_
                refine k_goto hK ti_63_81 jt_81_7 ?_
                refine k_imul hK (z := (nI (min 3 (tm s a (g_wish s c i)) * rar s (g_wish s c i)))) ti_63_88 (by rw [pk_mul, Nat.mul_comm, Nat.min_eq_left (by omega)]) ?_
                refine k_iadd hK (z := (nI (pts s (g_wish s c) (i + 1) a))) ti_63_89 (nI_add _ _) ?_
                refine k_istore hK (L' := [some (.ref S), some (.ref (C c)), some (.ref t), some (.ref u), some (.int _), some (.int _), some (.int _), some (.ref (V c)), some (.int _), some (.int _), some (.int _)]) ti_63_90 rfl ?_
                refine k_iinc hK (L' := [some (.ref S), some (.ref (C c)), some (.ref t), some (.ref u), some (.int _), some (.int _), some (.int _), some (.ref (V c)), some (.int _), some (.int (nI (i + 1))), some (.int _)]) ti_63_92 rfl (by rw [kI_1, nI_add]) rfl ?_
                refine k_goto hK ti_63_95 jt_95_m62 ?_
                exact ih (i + 1) _ _ (by omega) (by omega) (congrArg bl e6).symm
              · refine k_aload_n hK ti_63_84 rfl ?_
                refine k_iload hK ti_63_85 rfl ?_
                refine n_iald hK ((nI (tm s a ((g_wish s c i))))) (g_wish s c i) ti_63_87 hT (by omega) rfl (by omega) rfl ?_
                refine k_imul hK (z := (nI (min 3 (tm s a (g_wish s c i)) * rar s (g_wish s c i)))) ti_63_88 (by rw [pk_mul, Nat.mul_comm, Nat.min_eq_right (by omega)]) ?_
                refine k_iadd hK (z := (nI (pts s (g_wish s c) (i + 1) a))) ti_63_89 (nI_add _ _) ?_
                refine k_istore hK (L' := [some (.ref S), some (.ref (C c)), some (.ref t), some (.ref u), some (.int _), some (.int _), some (.int _), some (.ref (V c)), some (.int _), some (.int _), some (.int _)]) ti_63_90 rfl ?_
                refine k_iinc hK (L' := [some (.ref S), some (.ref (C c)), some (.ref t), some (.ref u), some (.int _), some (.int _), some (.int _), some (.ref (V c)), some (.int _), some (.int (nI (i + 1))), some (.int _)]) ti_63_92 rfl (by rw [kI_1, nI_add]) rfl ?_
                refine k_goto hK ti_63_95 jt_95_m62 ?_
                exact ih (i + 1) _ _ (by omega) (by omega) (congrArg bl e6).symm
        · obtain rfl : i = g_many s c := by omega
          refine k_iload hK ti_63_98 rfl ?_
          refine kb_eq hK ti_63_100 jt_100_13 (fun c_100 => ?_) (fun c_100 => ?_)
          · refine k_iload hK ti_63_113 rfl ?_
            refine k_iconst hK ti_63_115 kI_3 ?_
            refine k_iload hK ti_63_116 rfl ?_
            refine k_imul hK (z := (nI 3 * age)) ti_63_118 rfl ?_
            refine k_isub hK (z := (nI (pt2 s (g_wish s c) (g_many s c) a) - nI 3 * age)) ti_63_119 (by rw [show pt2 s (g_wish s c) (g_many s c) a = pts s (g_wish s c) (g_many s c) a from if_neg (of_decide_eq_false c_100)]) ?_
            refine k_istore hK (L' := [some (.ref S), some (.ref (C c)), some (.ref t), some (.ref u), some (.int _), some (.int _), some (.int _), some (.ref (V c)), some (.int _), some (.int _), u1]) ti_63_120 rfl ?_
            refine k_iload hK ti_63_122 rfl ?_
            refine k_if_ge hK ti_63_124 jt_124_7 (fun c_124 => ?_) (fun c_124 => ?_)
            · have e7 : scw s (g_wish s c) (g_many s c) a age = nI 0 := if_pos (by rw [nI_0]; exact c_124)
              rw [e7] at h
              refine k_iconst hK ti_63_127 kI_0 ?_
              refine k_goto hK ti_63_128 jt_128_5 ?_
              refine k_ireturn hK ti_63_133 rk_63 mc_63 ms_63 (by omega) (by omega) ?_
              exact h
            · have e7 : scw s (g_wish s c) (g_many s c) a age = nI (pt2 s (g_wish s c) (g_many s c) a) - nI 3 * age := if_neg (by rw [nI_0]; exact c_124)
              rw [e7] at h
              refine k_iload hK ti_63_131 rfl ?_
              refine k_ireturn hK ti_63_133 rk_63 mc_63 ms_63 (by omega) (by omega) ?_
              exact h
          · refine k_iload hK ti_63_103 rfl ?_
            refine k_iload hK ti_63_105 rfl ?_
            refine k_iconst hK ti_63_107 kI_2 ?_
            have hpl := pts_le hW (g_wish s c) (g_many s c) a
            refine k_idiv hK (z := (nI (pts s (g_wish s c) (g_many s c) a / 2))) ti_63_108 (by decide) (pk_div (by omega) (by omega) (by omega)) ?_
            refine k_iadd hK (z := (nI (pt2 s (g_wish s c) (g_many s c) a))) ti_63_109 (by rw [nI_add]; exact congrArg nI (if_pos (of_decide_eq_true c_100)).symm) ?_
            refine k_goto hK ti_63_110 jt_110_5 ?_
            refine k_iconst hK ti_63_115 kI_3 ?_
            refine k_iload hK ti_63_116 rfl ?_
            refine k_imul hK (z := (nI 3 * age)) ti_63_118 rfl ?_
            refine k_isub hK (z := (nI (pt2 s (g_wish s c) (g_many s c) a) - nI 3 * age)) ti_63_119 rfl ?_
            refine k_istore hK (L' := [some (.ref S), some (.ref (C c)), some (.ref t), some (.ref u), some (.int _), some (.int _), some (.int _), some (.ref (V c)), some (.int _), some (.int _), u1]) ti_63_120 rfl ?_
            refine k_iload hK ti_63_122 rfl ?_
            refine k_if_ge hK ti_63_124 jt_124_7 (fun c_124 => ?_) (fun c_124 => ?_)
            · have e7 : scw s (g_wish s c) (g_many s c) a age = nI 0 := if_pos (by rw [nI_0]; exact c_124)
              rw [e7] at h
              refine k_iconst hK ti_63_127 kI_0 ?_
              refine k_goto hK ti_63_128 jt_128_5 ?_
              refine k_ireturn hK ti_63_133 rk_63 mc_63 ms_63 (by omega) (by omega) ?_
              exact h
            · have e7 : scw s (g_wish s c) (g_many s c) a age = nI (pt2 s (g_wish s c) (g_many s c) a) - nI 3 * age := if_neg (by rw [nI_0]; exact c_124)
              rw [e7] at h
              refine k_iload hK ti_63_131 rfl ?_
              refine k_ireturn hK ti_63_133 rk_63 mc_63 ms_63 (by omega) (by omega) ?_
              exact h
    exact loop ((g_many s c) - 0 + 1) 0 _ _ (by omega) (by omega) (by first | exact (congrArg bl (decide_eq_true ⟨by omega, rfl⟩)).symm | exact (congrArg bl (decide_eq_false (fun z => by have := z.1; omega))).symm)
  · refine k_iconst hK ti_63_16 kI_0 ?_
    refine k_istore hK (L' := [some (.ref S), some (.ref (C c)), some (.ref t), some (.ref u), some (.int _), some (.int _), some (.int _), none, none, none, none]) ti_63_17 rfl ?_
    refine k_aload_n hK ti_63_19 rfl ?_
    refine n_get hK (.ref (V c)) ti_63_20 ow_63 fd_5_44 (hR.cl c (by omega)) rfl ?_
    refine k_astore hK (L' := [some (.ref S), some (.ref (C c)), some (.ref t), some (.ref u), some (.int _), some (.int _), some (.int _), some (.ref (V c)), none, none, none]) ti_63_23 rfl ?_
    refine k_aload hK ti_63_25 rfl ?_
    refine n_alenI hK ti_63_27 (hR.wi c (by omega)) ?_
    refine k_istore hK (L' := [some (.ref S), some (.ref (C c)), some (.ref t), some (.ref u), some (.int _), some (.int _), some (.int _), some (.ref (V c)), some (.int _), none, none]) ti_63_28 rfl ?_
    refine k_iconst hK ti_63_30 kI_0 ?_
    refine k_istore hK (L' := [some (.ref S), some (.ref (C c)), some (.ref t), some (.ref u), some (.int _), some (.int _), some (.int _), some (.ref (V c)), some (.int _), some (.int _), none]) ti_63_31 rfl ?_
    have loop : ∀ (f i : Nat) (u1 : Option Value) (b6 : Int32), i ≤ (g_many s c) → (g_many s c) - i < f → (b6 = bl (decide (2 ≤ g_many s c ∧ fnd s (g_wish s c) i a = i))) → K 33 [some (.ref S), some (.ref (C c)), some (.ref t), some (.ref u), some (.int age), some (.int (nI (pts s (g_wish s c) i a))), some (.int b6), some (.ref (V c)), some (.int (nI (g_many s c))), some (.int (nI i)), u1] [] n 0 0 M o := by
      intro f
      induction f with
      | zero => intro i u1 b6 h1 h2; omega
      | succ f ih =>
        intro i u1 b6 h1 h2 hb
        subst hb
        refine k_iload hK ti_63_33 rfl ?_
        refine k_iload hK ti_63_35 rfl ?_
        refine kn_ge hK (by omega) (by omega) ti_63_37 jt_37_61 (fun c_37 => ?_) (fun c_37 => ?_)
        · have hw20 := hW.2.2.2.2.2.2 c i (by omega) c_37
          have htm := tm_le hW ha9 (g_wish s c i)
          have hrr := rar_le hW (g_wish s c i)
          have hfu := fnd_up s (g_wish s c) i a
          refine k_aload hK ti_63_40 rfl ?_
          refine k_iload hK ti_63_42 rfl ?_
          refine n_iald hK ((nI (g_wish s c i))) i ti_63_44 (hR.wi c (by omega)) (by omega) rfl (by omega) rfl ?_
          refine k_istore hK (L' := [some (.ref S), some (.ref (C c)), some (.ref t), some (.ref u), some (.int _), some (.int _), some (.int _), some (.ref (V c)), some (.int _), some (.int _), some (.int _)]) ti_63_45 rfl ?_
          refine k_iload hK ti_63_47 rfl ?_
          refine kb_eq hK ti_63_49 jt_49_14 (fun c_49 => ?_) (fun c_49 => ?_)
          · have e6 : decide (2 ≤ g_many s c ∧ fnd s (g_wish s c) (i + 1) a = i + 1) = false := decide_eq_false (fun z => of_decide_eq_false c_49 ⟨z.1, by have := z.2; omega⟩)
            refine k_iconst hK ti_63_63 kI_0 ?_
            refine k_istore hK (L' := [some (.ref S), some (.ref (C c)), some (.ref t), some (.ref u), some (.int _), some (.int _), some (.int _), some (.ref (V c)), some (.int _), some (.int _), some (.int _)]) ti_63_64 rfl ?_
            refine k_iload hK ti_63_66 rfl ?_
            refine k_aload_n hK ti_63_68 rfl ?_
            refine k_iload hK ti_63_69 rfl ?_
            refine n_iald hK ((nI (rar s ((g_wish s c i))))) (g_wish s c i) ti_63_71 hU (by omega) rfl (by omega) rfl ?_
            refine k_aload_n hK ti_63_72 rfl ?_
            refine k_iload hK ti_63_73 rfl ?_
            refine n_iald hK ((nI (tm s a ((g_wish s c i))))) (g_wish s c i) ti_63_75 hT (by omega) rfl (by omega) rfl ?_
            refine k_iconst hK ti_63_76 kI_3 ?_
            refine kn_le hK (by omega) (by omega) ti_63_77 jt_77_7 (fun c_77 => ?_) (fun c_77 => ?_)
            · refine k_iconst hK ti_63_80 kI_3 ?_
              refine k_goto hK ti_63_81 jt_81_7 ?_
              refine k_imul hK (z := (nI (min 3 (tm s a (g_wish s c i)) * rar s (g_wish s c i)))) ti_63_88 (by rw [pk_mul, Nat.mul_comm, Nat.min_eq_left (by omega)]) ?_
              refine k_iadd hK (z := (nI (pts s (g_wish s c) (i + 1) a))) ti_63_89 (nI_add _ _) ?_
              refine k_istore hK (L' := [some (.ref S), some (.ref (C c)), some (.ref t), some (.ref u), some (.int _), some (.int _), some (.int _), some (.ref (V c)), some (.int _), some (.int _), some (.int _)]) ti_63_90 rfl ?_
              refine k_iinc hK (L' := [some (.ref S), some (.ref (C c)), some (.ref t), some (.ref u), some (.int _), some (.int _), some (.int _), some (.ref (V c)), some (.int _), some (.int (nI (i + 1))), some (.int _)]) ti_63_92 rfl (by rw [kI_1, nI_add]) rfl ?_
              refine k_goto hK ti_63_95 jt_95_m62 ?_
              exact ih (i + 1) _ _ (by omega) (by omega) (congrArg bl e6).symm
            · refine k_aload_n hK ti_63_84 rfl ?_
              refine k_iload hK ti_63_85 rfl ?_
              refine n_iald hK ((nI (tm s a ((g_wish s c i))))) (g_wish s c i) ti_63_87 hT (by omega) rfl (by omega) rfl ?_
              refine k_imul hK (z := (nI (min 3 (tm s a (g_wish s c i)) * rar s (g_wish s c i)))) ti_63_88 (by rw [pk_mul, Nat.mul_comm, Nat.min_eq_right (by omega)]) ?_
              refine k_iadd hK (z := (nI (pts s (g_wish s c) (i + 1) a))) ti_63_89 (nI_add _ _) ?_
              refine k_istore hK (L' := [some (.ref S), some (.ref (C c)), some (.ref t), some (.ref u), some (.int _), some (.int _), some (.int _), some (.ref (V c)), some (.int _), some (.int _), some (.int _)]) ti_63_90 rfl ?_
              refine k_iinc hK (L' := [some (.ref S), some (.ref (C c)), some (.ref t), some (.ref u), some (.int _), some (.int _), some (.int _), some (.ref (V c)), some (.int _), some (.int (nI (i + 1))), some (.int _)]) ti_63_92 rfl (by rw [kI_1, nI_add]) rfl ?_
              refine k_goto hK ti_63_95 jt_95_m62 ?_
              exact ih (i + 1) _ _ (by omega) (by omega) (congrArg bl e6).symm
          · refine k_aload_n hK ti_63_52 rfl ?_
            refine k_iload hK ti_63_53 rfl ?_
            refine n_iald hK ((nI (tm s a ((g_wish s c i))))) (g_wish s c i) ti_63_55 hT (by omega) rfl (by omega) rfl ?_
            refine kz_le hK (by omega) ti_63_56 jt_56_7 (fun c_56 => ?_) (fun c_56 => ?_)
            · have e6 : decide (2 ≤ g_many s c ∧ fnd s (g_wish s c) (i + 1) a = i + 1) = true := decide_eq_true ⟨(of_decide_eq_true c_49).1, by have h1 := (of_decide_eq_true c_49).2; have h2 : fnd s (g_wish s c) (i + 1) a = fnd s (g_wish s c) i a + 1 := cnt_t (by simp [c_56]); omega⟩
              refine k_iconst hK ti_63_59 kI_1 ?_
              refine k_goto hK ti_63_60 jt_60_4 ?_
              refine k_istore hK (L' := [some (.ref S), some (.ref (C c)), some (.ref t), some (.ref u), some (.int _), some (.int _), some (.int _), some (.ref (V c)), some (.int _), some (.int _), some (.int _)]) ti_63_64 rfl ?_
              refine k_iload hK ti_63_66 rfl ?_
              refine k_aload_n hK ti_63_68 rfl ?_
              refine k_iload hK ti_63_69 rfl ?_
              refine n_iald hK ((nI (rar s ((g_wish s c i))))) (g_wish s c i) ti_63_71 hU (by omega) rfl (by omega) rfl ?_
              refine k_aload_n hK ti_63_72 rfl ?_
              refine k_iload hK ti_63_73 rfl ?_
              refine n_iald hK ((nI (tm s a ((g_wish s c i))))) (g_wish s c i) ti_63_75 hT (by omega) rfl (by omega) rfl ?_
              refine k_iconst hK ti_63_76 kI_3 ?_
              refine kn_le hK (by omega) (by omega) ti_63_77 jt_77_7 (fun c_77 => ?_) (fun c_77 => ?_)
              · refine k_iconst hK ti_63_80 kI_3 ?_
                refine k_goto hK ti_63_81 jt_81_7 ?_
                refine k_imul hK (z := (nI (min 3 (tm s a (g_wish s c i)) * rar s (g_wish s c i)))) ti_63_88 (by rw [pk_mul, Nat.mul_comm, Nat.min_eq_left (by omega)]) ?_
                refine k_iadd hK (z := (nI (pts s (g_wish s c) (i + 1) a))) ti_63_89 (nI_add _ _) ?_
                refine k_istore hK (L' := [some (.ref S), some (.ref (C c)), some (.ref t), some (.ref u), some (.int _), some (.int _), some (.int _), some (.ref (V c)), some (.int _), some (.int _), some (.int _)]) ti_63_90 rfl ?_
                refine k_iinc hK (L' := [some (.ref S), some (.ref (C c)), some (.ref t), some (.ref u), some (.int _), some (.int _), some (.int _), some (.ref (V c)), some (.int _), some (.int (nI (i + 1))), some (.int _)]) ti_63_92 rfl (by rw [kI_1, nI_add]) rfl ?_
                refine k_goto hK ti_63_95 jt_95_m62 ?_
                exact ih (i + 1) _ _ (by omega) (by omega) (congrArg bl e6).symm
              · refine k_aload_n hK ti_63_84 rfl ?_
                refine k_iload hK ti_63_85 rfl ?_
                refine n_iald hK ((nI (tm s a ((g_wish s c i))))) (g_wish s c i) ti_63_87 hT (by omega) rfl (by omega) rfl ?_
                refine k_imul hK (z := (nI (min 3 (tm s a (g_wish s c i)) * rar s (g_wish s c i)))) ti_63_88 (by rw [pk_mul, Nat.mul_comm, Nat.min_eq_right (by omega)]) ?_
                refine k_iadd hK (z := (nI (pts s (g_wish s c) (i + 1) a))) ti_63_89 (nI_add _ _) ?_
                refine k_istore hK (L' := [some (.ref S), some (.ref (C c)), some (.ref t), some (.ref u), some (.int _), some (.int _), some (.int _), some (.ref (V c)), some (.int _), some (.int _), some (.int _)]) ti_63_90 rfl ?_
                refine k_iinc hK (L' := [some (.ref S), some (.ref (C c)), some (.ref t), some (.ref u), some (.int _), some (.int _), some (.int _), some (.ref (V c)), some (.int _), some (.int (nI (i + 1))), some (.int _)]) ti_63_92 rfl (by rw [kI_1, nI_add]) rfl ?_
                refine k_goto hK ti_63_95 jt_95_m62 ?_
                exact ih (i + 1) _ _ (by omega) (by omega) (congrArg bl e6).symm
            · have e6 : decide (2 ≤ g_many s c ∧ fnd s (g_wish s c) (i + 1) a = i + 1) = false := decide_eq_false (fun z => by have h1 := z.2; have h2 : fnd s (g_wish s c) (i + 1) a = fnd s (g_wish s c) i a := cnt_f (by simp [c_56]); omega)
              refine k_iconst hK ti_63_63 kI_0 ?_
              refine k_istore hK (L' := [some (.ref S), some (.ref (C c)), some (.ref t), some (.ref u), some (.int _), some (.int _), some (.int _), some (.ref (V c)), some (.int _), some (.int _), some (.int _)]) ti_63_64 rfl ?_
              refine k_iload hK ti_63_66 rfl ?_
              refine k_aload_n hK ti_63_68 rfl ?_
              refine k_iload hK ti_63_69 rfl ?_
              refine n_iald hK ((nI (rar s ((g_wish s c i))))) (g_wish s c i) ti_63_71 hU (by omega) rfl (by omega) rfl ?_
              refine k_aload_n hK ti_63_72 rfl ?_
              refine k_iload hK ti_63_73 rfl ?_
              refine n_iald hK ((nI (tm s a ((g_wish s c i))))) (g_wish s c i) ti_63_75 hT (by omega) rfl (by omega) rfl ?_
              refine k_iconst hK ti_63_76 kI_3 ?_
              refine kn_le hK (by omega) (by omega) ti_63_77 jt_77_7 (fun c_77 => ?_) (fun c_77 => ?_)
              · refine k_iconst hK ti_63_80 kI_3 ?_
                refine k_goto hK ti_63_81 jt_81_7 ?_
                refine k_imul hK (z := (nI (min 3 (tm s a (g_wish s c i)) * rar s (g_wish s c i)))) ti_63_88 (by rw [pk_mul, Nat.mul_comm, Nat.min_eq_left (by omega)]) ?_
                refine k_iadd hK (z := (nI (pts s (g_wish s c) (i + 1) a))) ti_63_89 (nI_add _ _) ?_
                refine k_istore hK (L' := [some (.ref S), some (.ref (C c)), some (.ref t), some (.ref u), some (.int _), some (.int _), some (.int _), some (.ref (V c)), some (.int _), some (.int _), some (.int _)]) ti_63_90 rfl ?_
                refine k_iinc hK (L' := [some (.ref S), some (.ref (C c)), some (.ref t), some (.ref u), some (.int _), some (.int _), some (.int _), some (.ref (V c)), some (.int _), some (.int (nI (i + 1))), some (.int _)]) ti_63_92 rfl (by rw [kI_1, nI_add]) rfl ?_
                refine k_goto hK ti_63_95 jt_95_m62 ?_
                exact ih (i + 1) _ _ (by omega) (by omega) (congrArg bl e6).symm
              · refine k_aload_n hK ti_63_84 rfl ?_
                refine k_iload hK ti_63_85 rfl ?_
                refine n_iald hK ((nI (tm s a ((g_wish s c i))))) (g_wish s c i) ti_63_87 hT (by omega) rfl (by omega) rfl ?_
                refine k_imul hK (z := (nI (min 3 (tm s a (g_wish s c i)) * rar s (g_wish s c i)))) ti_63_88 (by rw [pk_mul, Nat.mul_comm, Nat.min_eq_right (by omega)]) ?_
                refine k_iadd hK (z := (nI (pts s (g_wish s c) (i + 1) a))) ti_63_89 (nI_add _ _) ?_
                refine k_istore hK (L' := [some (.ref S), some (.ref (C c)), some (.ref t), some (.ref u), some (.int _), some (.int _), some (.int _), some (.ref (V c)), some (.int _), some (.int _), some (.int _)]) ti_63_90 rfl ?_
                refine k_iinc hK (L' := [some (.ref S), some (.ref (C c)), some (.ref t), some (.ref u), some (.int _), some (.int _), some (.int _), some (.ref (V c)), some (.int _), some (.int (nI (i + 1))), some (.int _)]) ti_63_92 rfl (by rw [kI_1, nI_add]) rfl ?_
                refine k_goto hK ti_63_95 jt_95_m62 ?_
                exact ih (i + 1) _ _ (by omega) (by omega) (congrArg bl e6).symm
        · obtain rfl : i = g_many s c := by omega
          refine k_iload hK ti_63_98 rfl ?_
          refine kb_eq hK ti_63_100 jt_100_13 (fun c_100 => ?_) (fun c_100 => ?_)
          · refine k_iload hK ti_63_113 rfl ?_
            refine k_iconst hK ti_63_115 kI_3 ?_
            refine k_iload hK ti_63_116 rfl ?_
            refine k_imul hK (z := (nI 3 * age)) ti_63_118 rfl ?_
            refine k_isub hK (z := (nI (pt2 s (g_wish s c) (g_many s c) a) - nI 3 * age)) ti_63_119 (by rw [show pt2 s (g_wish s c) (g_many s c) a = pts s (g_wish s c) (g_many s c) a from if_neg (of_decide_eq_false c_100)]) ?_
            refine k_istore hK (L' := [some (.ref S), some (.ref (C c)), some (.ref t), some (.ref u), some (.int _), some (.int _), some (.int _), some (.ref (V c)), some (.int _), some (.int _), u1]) ti_63_120 rfl ?_
            refine k_iload hK ti_63_122 rfl ?_
            refine k_if_ge hK ti_63_124 jt_124_7 (fun c_124 => ?_) (fun c_124 => ?_)
            · have e7 : scw s (g_wish s c) (g_many s c) a age = nI 0 := if_pos (by rw [nI_0]; exact c_124)
              rw [e7] at h
              refine k_iconst hK ti_63_127 kI_0 ?_
              refine k_goto hK ti_63_128 jt_128_5 ?_
              refine k_ireturn hK ti_63_133 rk_63 mc_63 ms_63 (by omega) (by omega) ?_
              exact h
            · have e7 : scw s (g_wish s c) (g_many s c) a age = nI (pt2 s (g_wish s c) (g_many s c) a) - nI 3 * age := if_neg (by rw [nI_0]; exact c_124)
              rw [e7] at h
              refine k_iload hK ti_63_131 rfl ?_
              refine k_ireturn hK ti_63_133 rk_63 mc_63 ms_63 (by omega) (by omega) ?_
              exact h
          · refine k_iload hK ti_63_103 rfl ?_
            refine k_iload hK ti_63_105 rfl ?_
            refine k_iconst hK ti_63_107 kI_2 ?_
            have hpl := pts_le hW (g_wish s c) (g_many s c) a
            refine k_idiv hK (z := (nI (pts s (g_wish s c) (g_many s c) a / 2))) ti_63_108 (by decide) (pk_div (by omega) (by omega) (by omega)) ?_
            refine k_iadd hK (z := (nI (pt2 s (g_wish s c) (g_many s c) a))) ti_63_109 (by rw [nI_add]; exact congrArg nI (if_pos (of_decide_eq_true c_100)).symm) ?_
            refine k_goto hK ti_63_110 jt_110_5 ?_
            refine k_iconst hK ti_63_115 kI_3 ?_
            refine k_iload hK ti_63_116 rfl ?_
            refine k_imul hK (z := (nI 3 * age)) ti_63_118 rfl ?_
            refine k_isub hK (z := (nI (pt2 s (g_wish s c) (g_many s c) a) - nI 3 * age)) ti_63_119 rfl ?_
            refine k_istore hK (L' := [some (.ref S), some (.ref (C c)), some (.ref t), some (.ref u), some (.int _), some (.int _), some (.int _), some (.ref (V c)), some (.int _), some (.int _), u1]) ti_63_120 rfl ?_
            refine k_iload hK ti_63_122 rfl ?_
            refine k_if_ge hK ti_63_124 jt_124_7 (fun c_124 => ?_) (fun c_124 => ?_)
            · have e7 : scw s (g_wish s c) (g_many s c) a age = nI 0 := if_pos (by rw [nI_0]; exact c_124)
              rw [e7] at h
              refine k_iconst hK ti_63_127 kI_0 ?_
              refine k_goto hK ti_63_128 jt_128_5 ?_
              refine k_ireturn hK ti_63_133 rk_63 mc_63 ms_63 (by omega) (by omega) ?_
              exact h
            · have e7 : scw s (g_wish s c) (g_many s c) a age = nI (pt2 s (g_wish s c) (g_many s c) a) - nI 3 * age := if_neg (by rw [nI_0]; exact c_124)
              rw [e7] at h
              refine k_iload hK ti_63_131 rfl ?_
              refine k_ireturn hK ti_63_133 rk_63 mc_63 ms_63 (by omega) (by omega) ?_
              exact h
    exact loop ((g_many s c) - 0 + 1) 0 _ _ (by omega) (by omega) (by first | exact (congrArg bl (decide_eq_true ⟨by omega, rfl⟩)).symm | exact (congrArg bl (decide_eq_false (fun z => by have := z.1; omega))).symm)

set_option maxRecDepth 100000 in
set_option maxHeartbeats 4000000 in
theorem sp_X5_best {X : dp_X} {d n : Nat} {M : dp_M} {o : dp_O} {Q : dp_Q} (h65 : 65 ≤ n) (p m : Nat) (v : Nat → Int32) (hm : m ≤ 16) (hP : IA o p m v) (h : Q (.inl (some (.int (oI (bst v m m))))) M o) : dp_run X (d + 0 + 1) 65 [.ref p] n M o Q := by
  apply k_run
  intro K hK
  rw [mL_65]
  show K 0 [some (.ref p), none, none] [] n 0 0 M o
  refine k_iconst hK ti_65_0 kI_m1 ?_
  refine k_istore_n hK (L' := [some (.ref p), some (.int _), none]) ti_65_1 rfl ?_
  refine k_aload_n hK ti_65_2 rfl ?_
  refine n_alenI hK ti_65_3 hP ?_
  refine k_iconst hK ti_65_4 kI_1 ?_
  refine k_isub hK (z := (nI (m - 0) - nI 1)) ti_65_5 rfl ?_
  refine k_istore_n hK (L' := [some (.ref p), some (.int _), some (.int _)]) ti_65_6 rfl ?_
  have loop : ∀ (f k : Nat), k ≤ m → m - k < f → K 7 [some (.ref p), some (.int (oI (bst v m k))), some (.int (nI (m - k) - nI 1))] [] n 0 0 M o := by
    intro f
    induction f with
    | zero => intro k h1 h2; omega
    | succ f ih =>
      intro k h1 h2
      refine k_iload_n hK ti_65_7 rfl ?_
      rcases Nat.lt_or_ge k m with hlt | hge
      · rw [show nI (m - k) - nI 1 = nI (m - k - 1) from pk_sub (by omega)]
        refine kz_lt hK (by omega) ti_65_8 jt_8_30 ?_
        refine k_aload_n hK ti_65_11 rfl ?_
        refine k_iload_n hK ti_65_12 rfl ?_
        refine n_iald hK ((v ((m - k - 1)))) (m - k - 1) ti_65_13 hP (by omega) rfl (by omega) rfl ?_
        refine k_if_lt hK ti_65_14 jt_14_18 (fun c_14 => ?_) (fun c_14 => ?_)
        · have e : bst v m (k + 1) = bst v m k := by show (match bst v m k with | none => _ | some b => _) = _; cases bst v m k <;> simp only [if_pos c_14]
          refine k_iinc hK (L' := [some (.ref p), some (.int _), some (.int (nI (m - (k + 1)) - nI 1))]) ti_65_32 rfl (by rw [kI_m1, i32_dec, Nat.sub_sub]) rfl ?_
          refine k_goto hK ti_65_35 jt_35_m28 ?_
          refine k_eq (L' := [some (.ref p), some (.int (oI (bst v m (k + 1)))), some (.int (nI (m - (k + 1)) - nI 1))]) ?_ (by simp only [e] <;> first | rfl | simp only [hb] <;> rfl) rfl rfl
          exact ih (k + 1) (by omega) (by omega) 
        · refine k_iload_n hK ti_65_17 rfl ?_
          rcases hb : bst v m k with _ | b
          · have e : bst v m (k + 1) = some (m - k - 1) := by show (match bst v m k with | none => _ | some b => _) = _; rw [hb]; simp only [if_neg c_14]
            refine k_if_lt hK ti_65_18 jt_18_12 (fun c_18 => ?_) (fun c_18 => ?_)
            · refine k_iload_n hK ti_65_30 rfl ?_
              refine k_istore_n hK (L' := [some (.ref p), some (.int _), some (.int _)]) ti_65_31 rfl ?_
              refine k_iinc hK (L' := [some (.ref p), some (.int _), some (.int (nI (m - (k + 1)) - nI 1))]) ti_65_32 rfl (by rw [kI_m1, i32_dec, Nat.sub_sub]) rfl ?_
              refine k_goto hK ti_65_35 jt_35_m28 ?_
              refine k_eq (L' := [some (.ref p), some (.int (oI (bst v m (k + 1)))), some (.int (nI (m - (k + 1)) - nI 1))]) ?_ (by simp only [e] <;> first | rfl | simp only [hb] <;> rfl) rfl rfl
              exact ih (k + 1) (by omega) (by omega) 
            · exact absurd (by decide) c_18
          · have hbl := ((bst_inv v m k (by omega)).1 b hb).2.1
            refine kz_lt hK (by omega) ti_65_18 jt_18_12 ?_
            refine k_aload_n hK ti_65_21 rfl ?_
            refine k_iload_n hK ti_65_22 rfl ?_
            refine n_iald hK ((v ((m - k - 1)))) (m - k - 1) ti_65_23 hP (by omega) rfl (by omega) rfl ?_
            refine k_aload_n hK ti_65_24 rfl ?_
            refine k_iload_n hK ti_65_25 rfl ?_
            refine n_iald hK ((v b)) b ti_65_26 hP (by omega) rfl (by omega) rfl ?_
            refine k_icmp_lt hK ti_65_27 jt_27_5 (fun c_27 => ?_) (fun c_27 => ?_)
            · have e : bst v m (k + 1) = some b := by show (match bst v m k with | none => _ | some b => _) = _; rw [hb]; simp only [if_neg c_14, if_pos c_27]
              refine k_iinc hK (L' := [some (.ref p), some (.int _), some (.int (nI (m - (k + 1)) - nI 1))]) ti_65_32 rfl (by rw [kI_m1, i32_dec, Nat.sub_sub]) rfl ?_
              refine k_goto hK ti_65_35 jt_35_m28 ?_
              refine k_eq (L' := [some (.ref p), some (.int (oI (bst v m (k + 1)))), some (.int (nI (m - (k + 1)) - nI 1))]) ?_ (by simp only [e] <;> first | rfl | simp only [hb] <;> rfl) rfl rfl
              exact ih (k + 1) (by omega) (by omega) 
            · have e : bst v m (k + 1) = some (m - k - 1) := by show (match bst v m k with | none => _ | some b => _) = _; rw [hb]; simp only [if_neg c_14, if_neg c_27]
              refine k_iload_n hK ti_65_30 rfl ?_
              refine k_istore_n hK (L' := [some (.ref p), some (.int _), some (.int _)]) ti_65_31 rfl ?_
              refine k_iinc hK (L' := [some (.ref p), some (.int _), some (.int (nI (m - (k + 1)) - nI 1))]) ti_65_32 rfl (by rw [kI_m1, i32_dec, Nat.sub_sub]) rfl ?_
              refine k_goto hK ti_65_35 jt_35_m28 ?_
              refine k_eq (L' := [some (.ref p), some (.int (oI (bst v m (k + 1)))), some (.int (nI (m - (k + 1)) - nI 1))]) ?_ (by simp only [e] <;> first | rfl | simp only [hb] <;> rfl) rfl rfl
              exact ih (k + 1) (by omega) (by omega) 
      · obtain rfl : k = m := by omega
        rw [show nI (k - k) - nI 1 = (-1 : Int32) by rw [Nat.sub_self]; decide]
        refine k_if_lt hK ti_65_8 jt_8_30 (fun c_8 => ?_) (fun c_8 => ?_)
        · refine k_iload_n hK ti_65_38 rfl ?_
          refine k_ireturn hK ti_65_39 rk_65 mc_65 ms_65 (by omega) (by omega) ?_
          exact h
        · exact absurd (by decide) c_8
  exact loop (m - 0 + 1) 0 (by omega) (by omega) 

set_option maxRecDepth 100000 in
set_option maxHeartbeats 4000000 in
theorem sp_X5_fits {X : dp_X} {d n : Nat} {M : dp_M} {o : dp_O} {Q : dp_Q} (h65 : 65 ≤ n) {S hs hw ha hc : Nat} {W C V B : Nat → Nat} {s : GSt} {l : LSt} (c : Nat) (hW : GW s) (hR : SR o S hs hw ha hc W C V B s l) (hc9 : c < g_nC s) (h : ∀ r o1, o r = none → Kp o o1 → IA o1 r (g_nA s) (FT s l c) → Q (.inl (some (.ref r))) M o1) : dp_run X (d + 2 + 1) 64 [.ref S, .ref (C c)] n M o Q := by
  apply k_run
  intro K hK
  rw [mL_64]
  show K 0 [some (.ref S), some (.ref (C c)), none, none, none, none] [] n 0 0 M o
  have hA16 := hW.1
  have hC6 := hW.2.1
  have hR0 := hR
  refine k_aload_n hK ti_64_0 rfl ?_
  refine k_callVd hK (as := []) (st' := []) ti_64_1 ow_64 iv_5_47 mc_64 ms_64 rfl rfl (by omega) (Nat.le_of_ble_eq_true rfl) (Nat.le_of_ble_eq_true rfl) (by omega) (by omega) hR.ob ?_
  refine sp_X5_rarities (by omega) hW hR (fun u o_u f_u k_u hU => ?_)
  replace hR := hR0.kp k_u
  refine k_astore_n hK (L' := [some (.ref S), some (.ref (C c)), some (.ref u), none, none, none]) ti_64_4 rfl ?_
  refine k_aload_n hK ti_64_5 rfl ?_
  refine n_get hK (.ref hw) ti_64_6 ow_64 fd_5_14 hR.ob rfl ?_
  refine n_alenR hK ti_64_9 hR.rw ?_
  refine n_newI hK (g_nA s) ti_64_10 mc_64 ms_64 rfl (by omega) (by omega) (by omega) (fun r o_10 f_10 k_10 a_10 => ?_)
  replace hR := hR.kp k_10
  have hnu : u ≠ r := sm_ne hU.sm f_10
  replace hU := hU.kp k_10
  have hk0 := k_u.trans k_10
  have hn0 : o r = none := k_u.nn f_10
  refine k_astore_n hK (L' := [some (.ref S), some (.ref (C c)), some (.ref u), some (.ref r), none, none]) ti_64_12 rfl ?_
  refine k_iconst hK ti_64_13 kI_0 ?_
  refine k_istore hK (L' := [some (.ref S), some (.ref (C c)), some (.ref u), some (.ref r), some (.int _), none]) ti_64_14 rfl ?_
  have loop : ∀ (f i : Nat) (v : Option Value) (o1 : dp_O), i ≤ (g_nA s) → (g_nA s) - i < f → (Kp o o1) → (IA o1 r (g_nA s) (fun k => if k < i then FT s l c k else nI 0)) → (IA o1 u 20 (fun x => nI (rar s x))) → (SR o1 S hs hw ha hc W C V B s l) → K 16 [some (.ref S), some (.ref (C c)), some (.ref u), some (.ref r), some (.int (nI i)), v] [] n (18 + i) (340 + g_nA s + 20 * i) M o1 := by
    intro f
    induction f with
    | zero => intro i v o1 h1 h2; omega
    | succ f ih =>
      intro i v o1 h1 h2 hk hr hU hR
      refine k_iload hK ti_64_16 rfl ?_
      refine k_aload_n hK ti_64_18 rfl ?_
      refine n_alenI hK ti_64_19 hr ?_
      refine kn_ge hK (by omega) (by omega) ti_64_20 jt_20_59 (fun c_20 => ?_) (fun c_20 => ?_)
      · refine k_aload_n hK ti_64_23 rfl ?_
        refine k_aload_n hK ti_64_24 rfl ?_
        refine k_aload_n hK ti_64_25 rfl ?_
        refine k_iload hK ti_64_26 rfl ?_
        refine k_callVd hK (as := [.int _]) (st' := [.ref (C c), .ref S]) ti_64_28 ow_64 iv_5_40 mc_64 ms_64 rfl rfl (by omega) (Nat.le_of_ble_eq_true rfl) (Nat.le_of_ble_eq_true rfl) (by omega) (by omega) hR.ob ?_
        refine sp_X5_table (by omega) i hW hR (by omega) (fun t o_t f_t k_t a_t => ?_)
        have hk2 := hk.trans k_t
        replace hR := hR0.kp hk2
        replace hr := hr.kp k_t
        replace hU := hU.kp k_t
        skip
        refine k_aload_n hK ti_64_31 rfl ?_
        refine k_aload_n hK ti_64_32 rfl ?_
        refine n_get hK (.ref ha) ti_64_33 ow_64 fd_5_18 hR.ob rfl ?_
        refine k_iload hK ti_64_36 rfl ?_
        refine n_iald hK ((l_age l i)) i ti_64_38 hR.age (by omega) rfl (by omega) rfl ?_
        refine k_callVd hK (as := [.ref (C c), .ref t, .ref u, .int _]) (st' := []) ti_64_39 ow_64 iv_5_51 mc_64 ms_64 rfl rfl (by omega) (Nat.le_of_ble_eq_true rfl) (Nat.le_of_ble_eq_true rfl) (by omega) (by omega) hR.ob ?_
        refine sp_X5_score (by omega) c i t u (l_age l i) hW hR hc9 (by omega) a_t hU ?_
        refine k_istore hK (L' := [some (.ref S), some (.ref (C c)), some (.ref u), some (.ref r), some (.int _), some (.int _)]) ti_64_42 rfl ?_
        refine k_aload_n hK ti_64_44 rfl ?_
        refine k_iload hK ti_64_45 rfl ?_
        refine k_aload_n hK ti_64_47 rfl ?_
        refine n_get hK (.ref (B c)) ti_64_48 ow_64 fd_5_55 (hR.cl c (by omega)) rfl ?_
        refine k_iload hK ti_64_51 rfl ?_
        refine n_bald hK ((bl (bit (l_sent l c) i))) i ti_64_53 (hR.se c (by omega)) (by omega) rfl (by omega) rfl ?_
        refine kb_ne hK ti_64_54 jt_54_12 (fun c_54 => ?_) (fun c_54 => ?_)
        · refine k_iload hK ti_64_57 rfl ?_
          refine k_aload_n hK ti_64_59 rfl ?_
          refine n_get hK (.int (g_bar s c)) ti_64_60 ow_64 fd_5_59 (hR.cl c (by omega)) rfl ?_
          refine k_icmp_ge hK ti_64_63 jt_63_7 (fun c_63 => ?_) (fun c_63 => ?_)
          · have e : FT s l c i = -1 := FT_f (by unfold fit; rw [decide_eq_true (show sc s l c i < g_bar s c from c_63)]; simp)
            refine k_iconst hK ti_64_66 kI_m1 ?_
            refine k_goto hK ti_64_67 jt_67_5 ?_
            refine n_iast hK i ti_64_72 hr (by omega) rfl (by omega) (fun o_72 w_72 a_72 => ?_)
            refine k_iinc hK (L' := [some (.ref S), some (.ref (C c)), some (.ref u), some (.ref r), some (.int (nI (i + 1))), some (.int _)]) ti_64_73 rfl (by rw [kI_1, nI_add]) rfl ?_
            refine k_goto hK ti_64_76 jt_76_m60 ?_
            refine k_wid hK (c' := 18 + (i + 1)) (q' := 340 + g_nA s + 20 * (i + 1)) (by omega) (by omega) ?_
            exact ih (i + 1) _ _ (by omega) (by omega) (hk2.wr hn0 w_72) (a_72.congr (fun x hx => up_if (f := FT s l c) (g := fun _ => nI 0) e.symm)) (hU.wr w_72 hnu) (hR0.kp (hk2.wr hn0 w_72))
          · have e : FT s l c i = sc s l c i := FT_t (by unfold fit; rw [c_54, decide_eq_false (show ¬ sc s l c i < g_bar s c from c_63)]; rfl)
            refine k_iload hK ti_64_70 rfl ?_
            refine n_iast hK i ti_64_72 hr (by omega) rfl (by omega) (fun o_72 w_72 a_72 => ?_)
            refine k_iinc hK (L' := [some (.ref S), some (.ref (C c)), some (.ref u), some (.ref r), some (.int (nI (i + 1))), some (.int _)]) ti_64_73 rfl (by rw [kI_1, nI_add]) rfl ?_
            refine k_goto hK ti_64_76 jt_76_m60 ?_
            refine k_wid hK (c' := 18 + (i + 1)) (q' := 340 + g_nA s + 20 * (i + 1)) (by omega) (by omega) ?_
            exact ih (i + 1) _ _ (by omega) (by omega) (hk2.wr hn0 w_72) (a_72.congr (fun x hx => up_if (f := FT s l c) (g := fun _ => nI 0) e.symm)) (hU.wr w_72 hnu) (hR0.kp (hk2.wr hn0 w_72))
        · have e : FT s l c i = -1 := FT_f (by unfold fit; rw [c_54]; rfl)
          refine k_iconst hK ti_64_66 kI_m1 ?_
          refine k_goto hK ti_64_67 jt_67_5 ?_
          refine n_iast hK i ti_64_72 hr (by omega) rfl (by omega) (fun o_72 w_72 a_72 => ?_)
          refine k_iinc hK (L' := [some (.ref S), some (.ref (C c)), some (.ref u), some (.ref r), some (.int (nI (i + 1))), some (.int _)]) ti_64_73 rfl (by rw [kI_1, nI_add]) rfl ?_
          refine k_goto hK ti_64_76 jt_76_m60 ?_
          refine k_wid hK (c' := 18 + (i + 1)) (q' := 340 + g_nA s + 20 * (i + 1)) (by omega) (by omega) ?_
          exact ih (i + 1) _ _ (by omega) (by omega) (hk2.wr hn0 w_72) (a_72.congr (fun x hx => up_if (f := FT s l c) (g := fun _ => nI 0) e.symm)) (hU.wr w_72 hnu) (hR0.kp (hk2.wr hn0 w_72))
      · obtain rfl : i = g_nA s := by omega
        refine k_aload_n hK ti_64_79 rfl ?_
        refine k_areturn hK ti_64_80 rk_64 (by decide) mc_64 ms_64 (by omega) (by omega) ?_
        exact h r o1 hn0 hk (hr.congr (fun x hx => if_pos hx))
  refine k_wid hK (c' := 18 + 0) (q' := 340 + g_nA s + 20 * 0) (by omega) (by omega) ?_
  exact loop ((g_nA s) - 0 + 1) 0 _ _ (by omega) (by omega) hk0 (a_10.congr (fun x hx => (if_neg (Nat.not_lt_zero x)).symm)) hU hR
