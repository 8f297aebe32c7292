/-! The law's own bureau: its helpers, and what only reads. (written by wip/p28/sim1.py) -/
theorem and_nn (v : Int32) : ¬ (v &&& nI 2147483647) < 0 := by
  intro h
  have h1 := Int32.lt_iff_toInt_lt.mp h
  have e : (v &&& nI 2147483647).toInt = ((v &&& nI 2147483647).toBitVec).toInt := rfl
  have hm : ((v &&& nI 2147483647).toBitVec).msb = false := by
    rw [Int32.toBitVec_and, BitVec.msb_and, show (nI 2147483647).toBitVec.msb = false by decide +kernel, Bool.and_false]
  rw [e, BitVec.toInt_eq_toNat_of_msb hm] at h1
  have h0 : (0 : Int32).toInt = 0 := rfl
  omega
theorem nI_rem {j m : Nat} (hj : j < 2 ^ 31) (h0 : 0 < m) (hm : m < 2 ^ 31) : nI j - nI j / nI m * nI m = nI (j % m) := by
  rw [pk_div (by omega) (by omega) (by omega), pk_mul, pk_sub (Nat.div_mul_le_self j m)]
  congr 1
  have e := Nat.div_add_mod' j m
  generalize j / m * m = t at *
  omega
set_option maxRecDepth 100000 in
set_option maxHeartbeats 4000000 in
theorem sp_L_below {X : dp_X} {d n : Nat} {M : dp_M} {o : dp_O} {Q : dp_Q} (h65 : 65 ≤ n) (v : Int32) (m : Nat) (h0 : 0 < m) (hm : m < 2 ^ 31) (h : ∀ k, k < m → Q (.inl (some (.int (nI k)))) M o) : dp_run X (d + 0 + 1) 71 [.int v, .int (nI m)] n M o Q := by
  apply k_run
  intro K hK
  rw [mL_71]
  show K 0 [some (.int v), some (.int (nI m))] [] n 0 0 M o
  refine k_iload_n hK ti_71_0 rfl ?_
  refine k_ldc (x := nI 2147483647) hK ti_71_1 (by rw [ow_71]; exact lci_7) ?_
  refine k_iand hK (z := (v &&& nI 2147483647)) ti_71_3 rfl ?_
  obtain ⟨j, hj, ej⟩ := nI_of (and_nn v)
  rw [ej]
  refine k_iload_n hK ti_71_4 rfl ?_
  refine k_irem hK (z := (nI (j % m))) ti_71_5 (nI_ne0 (by omega) (by omega)) (nI_rem hj h0 hm) ?_
  refine k_ireturn hK ti_71_6 rk_71 mc_71 ms_71 (Nat.le_of_ble_eq_true rfl) (Nat.le_of_ble_eq_true rfl) ?_
  exact h _ (Nat.mod_lt _ h0)

set_option maxRecDepth 100000 in
set_option maxHeartbeats 4000000 in
theorem sp_L_cell {X : dp_X} {d n : Nat} {M : dp_M} {o : dp_O} {Q : dp_Q} (h65 : 65 ≤ n) (j : Nat) (hj : j < 2 ^ 30) (hX : X.1 < 2 ^ 31) (h : ∀ x, Q (.inl (some (.int x))) M o) : dp_run X (d + 0 + 1) 72 [.ref 1000, .int (nI j)] n M o Q := by
  apply k_run
  intro K hK
  rw [mL_72]
  show K 0 [some (.ref 1000), some (.int (nI j))] [] n 0 0 M o
  refine k_iload_n hK ti_72_0 rfl ?_
  refine k_aload_n hK ti_72_1 rfl ?_
  refine k_slen hK ti_72_2 ?_
  refine kn_ge hK (by omega) (by omega) ti_72_3 jt_3_9 (fun c_3 => ?_) (fun c_3 => ?_)
  · refine k_aload_n hK ti_72_6 rfl ?_
    refine k_iload_n hK ti_72_7 rfl ?_
    refine k_sald hK j ti_72_8 rfl (by omega) hX ?_
    refine k_goto hK ti_72_9 jt_9_9 ?_
    refine k_ireturn hK ti_72_18 rk_72 mc_72 ms_72 (Nat.le_of_ble_eq_true rfl) (Nat.le_of_ble_eq_true rfl) ?_
    exact h _
  · refine k_ldc (x := nI 790386105) hK ti_72_12 (by rw [ow_72]; exact lci_8) ?_
    refine k_iload_n hK ti_72_14 rfl ?_
    refine k_iconst hK ti_72_15 kI_3 ?_
    refine k_iadd hK (z := (nI (j + 3))) ti_72_16 (nI_add _ _) ?_
    refine k_imul hK (z := (nI (790386105 * (j + 3)))) ti_72_17 (pk_mul _ _) ?_
    refine k_ireturn hK ti_72_18 rk_72 mc_72 ms_72 (Nat.le_of_ble_eq_true rfl) (Nat.le_of_ble_eq_true rfl) ?_
    exact h _

set_option maxRecDepth 100000 in
set_option maxHeartbeats 4000000 in
theorem sp_L_more {X : dp_X} {d n : Nat} {M : dp_M} {o : dp_O} {Q : dp_Q} (h65 : 65 ≤ n) (p m : Nat) (v : Nat → Int32) (x : Int32) (hm : m ≤ 12) (hP : IA o p m v) (h : ∀ r o1, o r = none → Kp o o1 → IA o1 r (m + 1) (fun k => if k = m then x else v k) → Q (.inl (some (.ref r))) M o1) : dp_run X (d + 0 + 1) 73 [.ref p, .int x] n M o Q := by
  apply k_run
  intro K hK
  rw [mL_73]
  show K 0 [some (.ref p), some (.int x), none, none] [] n 0 0 M o
  refine k_aload_n hK ti_73_0 rfl ?_
  refine n_alenI hK ti_73_1 hP ?_
  refine k_iconst hK ti_73_2 kI_1 ?_
  refine k_iadd hK (z := (nI (m + 1))) ti_73_3 (nI_add _ _) ?_
  refine n_newI hK (m + 1) ti_73_4 mc_73 ms_73 rfl (by omega) (Nat.le_of_ble_eq_true rfl) (Nat.le_of_ble_eq_true rfl) (fun r o_4 f_4 k_4 a_4 => ?_)
  have hP0 := hP
  refine k_astore_n hK (L' := [some (.ref p), some (.int _), some (.ref r), none]) ti_73_6 rfl ?_
  refine k_iconst hK ti_73_7 kI_0 ?_
  refine k_istore_n hK (L' := [some (.ref p), some (.int _), some (.ref r), some (.int _)]) ti_73_8 rfl ?_
  have loop : ∀ (f i : Nat) (o1 : dp_O), i ≤ m → m - i < f → (Kp o o1) → (IA o1 r (m + 1) (fun k => if k < i then v k else nI 0)) → (IA o1 p m v) → K 9 [some (.ref p), some (.int x), some (.ref r), some (.int (nI i))] [] n (0 + 1) (0 + (m + 1)) M o1 := by
    intro f
    induction f with
    | zero => intro i o1 h1 h2; omega
    | succ f ih =>
      intro i o1 h1 h2 hk hr hP
      refine k_iload_n hK ti_73_9 rfl ?_
      refine k_aload_n hK ti_73_10 rfl ?_
      refine n_alenI hK ti_73_11 hP ?_
      refine kn_ge hK (by omega) (by omega) ti_73_12 jt_12_15 (fun c_12 => ?_) (fun c_12 => ?_)
      · refine k_aload_n hK ti_73_15 rfl ?_
        refine k_iload_n hK ti_73_16 rfl ?_
        refine k_aload_n hK ti_73_17 rfl ?_
        refine k_iload_n hK ti_73_18 rfl ?_
        refine n_iald hK ((v i)) i ti_73_19 hP (by omega) rfl (by omega) rfl ?_
        refine n_iast hK i ti_73_20 hr (by omega) rfl (by omega) (fun o_20 w_20 a_20 => ?_)
        refine k_iinc hK (L' := [some (.ref p), some (.int _), some (.ref r), some (.int (nI (i + 1)))]) ti_73_21 rfl (by rw [kI_1, nI_add]) rfl ?_
        refine k_goto hK ti_73_24 jt_24_m15 ?_
        exact ih (i + 1) _ (by omega) (by omega) (hk.wr f_4 w_20) (a_20.congr (fun k hk9 => by by_cases e1 : k = i; (subst e1; rw [if_pos rfl, if_pos (by omega)]); rw [if_neg e1]; by_cases e2 : k < i; (rw [if_pos e2, if_pos (by omega)]); rw [if_neg e2, if_neg (by omega)])) (hP0.kp (hk.wr f_4 w_20))
      · obtain rfl : i = m := by omega
        refine k_aload_n hK ti_73_27 rfl ?_
        refine k_aload_n hK ti_73_28 rfl ?_
        refine n_alenI hK ti_73_29 hP ?_
        refine k_iload_n hK ti_73_30 rfl ?_
        refine n_iast hK m ti_73_31 hr (by omega) rfl (by omega) (fun o_31 w_31 a_31 => ?_)
        refine k_aload_n hK ti_73_32 rfl ?_
        refine k_areturn hK ti_73_33 rk_73 (by decide) mc_73 ms_73 (Nat.le_of_ble_eq_true rfl) (Nat.le_of_ble_eq_true rfl) ?_
        refine h r o_31 f_4 (hk.wr f_4 w_31) (a_31.congr (fun k hk9 => ?_))
        by_cases e1 : k = i
        · rw [if_pos e1, if_pos e1]
        · rw [if_neg e1, if_neg e1]
          exact if_pos (by omega)
  exact loop (m - 0 + 1) 0 _ (by omega) (by omega) k_4 (a_4.congr (fun k hk9 => (if_neg (Nat.not_lt_zero k)).symm)) (hP0.kp k_4)

set_option maxRecDepth 100000 in
set_option maxHeartbeats 4000000 in
theorem sp_L_less {X : dp_X} {d n : Nat} {M : dp_M} {o : dp_O} {Q : dp_Q} (h65 : 65 ≤ n) (p m j : Nat) (v : Nat → Int32) (hm : m ≤ 12) (hj : j < m) (hP : IA o p m v) (h : ∀ r o1, o r = none → Kp o o1 → IA o1 r (m - 1) (fun k => if k < j then v k else v (k + 1)) → Q (.inl (some (.ref r))) M o1) : dp_run X (d + 0 + 1) 74 [.ref p, .int (nI j)] n M o Q := by
  apply k_run
  intro K hK
  rw [mL_74]
  show K 0 [some (.ref p), some (.int (nI j)), none, none] [] n 0 0 M o
  refine k_aload_n hK ti_74_0 rfl ?_
  refine n_alenI hK ti_74_1 hP ?_
  refine k_iconst hK ti_74_2 kI_1 ?_
  refine k_isub hK (z := (nI (m - 1))) ti_74_3 (pk_sub (by omega)) ?_
  refine n_newI hK (m - 1) ti_74_4 mc_74 ms_74 rfl (by omega) (Nat.le_of_ble_eq_true rfl) (Nat.le_of_ble_eq_true rfl) (fun r o_4 f_4 k_4 a_4 => ?_)
  have hP0 := hP
  refine k_astore_n hK (L' := [some (.ref p), some (.int _), some (.ref r), none]) ti_74_6 rfl ?_
  refine k_iconst hK ti_74_7 kI_0 ?_
  refine k_istore_n hK (L' := [some (.ref p), some (.int _), some (.ref r), some (.int _)]) ti_74_8 rfl ?_
  have loop : ∀ (f i : Nat) (o1 : dp_O), i ≤ (m - 1) → (m - 1) - i < f → (Kp o o1) → (IA o1 r (m - 1) (fun k => if k < i then (if k < j then v k else v (k + 1)) else nI 0)) → (IA o1 p m v) → K 9 [some (.ref p), some (.int (nI j)), some (.ref r), some (.int (nI i))] [] n (0 + 1) (0 + (m - 1)) M o1 := by
    intro f
    induction f with
    | zero => intro i o1 h1 h2; omega
    | succ f ih =>
      intro i o1 h1 h2 hk hr hP
      refine k_iload_n hK ti_74_9 rfl ?_
      refine k_aload_n hK ti_74_10 rfl ?_
      refine n_alenI hK ti_74_11 hr ?_
      refine kn_ge hK (by omega) (by omega) ti_74_12 jt_12_26 (fun c_12 => ?_) (fun c_12 => ?_)
      · refine k_aload_n hK ti_74_15 rfl ?_
        refine k_iload_n hK ti_74_16 rfl ?_
        refine k_aload_n hK ti_74_17 rfl ?_
        refine k_iload_n hK ti_74_18 rfl ?_
        refine k_iload_n hK ti_74_19 rfl ?_
        refine kn_ge hK (by omega) (by omega) ti_74_20 jt_20_7 (fun c_20 => ?_) (fun c_20 => ?_)
        · have e9 : (if i < j then v i else v (i + 1)) = v i := if_pos c_20
          refine k_iload_n hK ti_74_23 rfl ?_
          refine k_goto hK ti_74_24 jt_24_6 ?_
          refine n_iald hK ((v i)) i ti_74_30 hP (by omega) rfl (by omega) rfl ?_
          refine n_iast hK i ti_74_31 hr (by omega) rfl (by omega) (fun o_31 w_31 a_31 => ?_)
          refine k_iinc hK (L' := [some (.ref p), some (.int _), some (.ref r), some (.int (nI (i + 1)))]) ti_74_32 rfl (by rw [kI_1, nI_add]) rfl ?_
          refine k_goto hK ti_74_35 jt_35_m26 ?_
          exact ih (i + 1) _ (by omega) (by omega) (hk.wr f_4 w_31) (a_31.congr (fun k hk9 => by by_cases e1 : k = i; (subst e1; rw [if_pos rfl, if_pos (by omega), e9]); rw [if_neg e1]; by_cases e2 : k < i; (rw [if_pos e2, if_pos (by omega)]); rw [if_neg e2, if_neg (by omega)])) (hP0.kp (hk.wr f_4 w_31))
        · have e9 : (if i < j then v i else v (i + 1)) = v (i + 1) := if_neg c_20
          refine k_iload_n hK ti_74_27 rfl ?_
          refine k_iconst hK ti_74_28 kI_1 ?_
          refine k_iadd hK (z := (nI (i + 1))) ti_74_29 (nI_add _ _) ?_
          refine n_iald hK ((v (i + 1))) (i + 1) ti_74_30 hP (by omega) rfl (by omega) rfl ?_
          refine n_iast hK i ti_74_31 hr (by omega) rfl (by omega) (fun o_31 w_31 a_31 => ?_)
          refine k_iinc hK (L' := [some (.ref p), some (.int _), some (.ref r), some (.int (nI (i + 1)))]) ti_74_32 rfl (by rw [kI_1, nI_add]) rfl ?_
          refine k_goto hK ti_74_35 jt_35_m26 ?_
          exact ih (i + 1) _ (by omega) (by omega) (hk.wr f_4 w_31) (a_31.congr (fun k hk9 => by by_cases e1 : k = i; (subst e1; rw [if_pos rfl, if_pos (by omega), e9]); rw [if_neg e1]; by_cases e2 : k < i; (rw [if_pos e2, if_pos (by omega)]); rw [if_neg e2, if_neg (by omega)])) (hP0.kp (hk.wr f_4 w_31))
      · obtain rfl : i = m - 1 := by omega
        refine k_aload_n hK ti_74_38 rfl ?_
        refine k_areturn hK ti_74_39 rk_74 (by decide) mc_74 ms_74 (Nat.le_of_ble_eq_true rfl) (Nat.le_of_ble_eq_true rfl) ?_
        exact h r o1 f_4 hk (hr.congr (fun k hk9 => if_pos hk9))
  exact loop ((m - 1) - 0 + 1) 0 _ (by omega) (by omega) k_4 (a_4.congr (fun k hk9 => (if_neg (Nat.not_lt_zero k)).symm)) (hP0.kp k_4)

set_option maxRecDepth 100000 in
set_option maxHeartbeats 4000000 in
theorem sp_X5_table {X : dp_X} {d n : Nat} {M : dp_M} {o : dp_O} {Q : dp_Q} (h65 : 65 ≤ n) {S hs hw ha hc : Nat} {W C V B : Nat → Nat} {s : GSt} {l : LSt} (a : Nat) (hW : GW s) (hR : SR o S hs hw ha hc W C V B s l) (ha9 : a < g_nA s) (h : ∀ r o1, o r = none → Kp o o1 → IA o1 r 20 (fun x => nI (tm s a x)) → Q (.inl (some (.ref r))) M o1) : dp_run X (d + 0 + 1) 61 [.ref S, .int (nI a)] n M o Q := by
  apply k_run
  intro K hK
  rw [mL_61]
  show K 0 [some (.ref S), some (.int (nI a)), none, none, none, none, none] [] n 0 0 M o
  have hA16 := hW.1
  have hC6 := hW.2.1
  have hlen := hW.2.2.2.1 a (by omega)
  refine k_bipush hK ti_61_0 kB_20 ?_
  refine n_newI hK 20 ti_61_2 mc_61 ms_61 rfl (by omega) (Nat.le_of_ble_eq_true rfl) (Nat.le_of_ble_eq_true rfl) (fun r o_2 f_2 k_2 a_2 => ?_)
  have hR0 := hR
  replace hR := hR.kp k_2
  refine k_astore_n hK (L' := [some (.ref S), some (.int _), some (.ref r), none, none, none, none]) ti_61_4 rfl ?_
  refine k_aload_n hK ti_61_5 rfl ?_
  refine n_get hK (.ref hw) ti_61_6 ow_61 fd_5_14 hR.ob rfl ?_
  refine k_iload_n hK ti_61_9 rfl ?_
  refine n_aald hK a ti_61_10 hR.rw (by omega) rfl (by omega) ?_
  refine k_astore_n hK (L' := [some (.ref S), some (.int _), some (.ref r), some (.ref (W a)), none, none, none]) ti_61_11 rfl ?_
  refine k_aload_n hK ti_61_12 rfl ?_
  refine n_alenI hK ti_61_13 (hR.wd a (by omega)) ?_
  refine k_istore hK (L' := [some (.ref S), some (.int _), some (.ref r), some (.ref (W a)), some (.int _), none, none]) ti_61_14 rfl ?_
  refine k_iconst hK ti_61_16 kI_0 ?_
  refine k_istore hK (L' := [some (.ref S), some (.int _), some (.ref r), some (.ref (W a)), some (.int _), some (.int _), none]) ti_61_17 rfl ?_
  have loop : ∀ (f i : Nat) (u : Option Value) (o1 : dp_O), i ≤ (g_len s a) → (g_len s a) - i < f → (Kp o o1) → (IA o1 r 20 (fun x => nI (tmi s a x i))) → (SR o1 S hs hw ha hc W C V B s l) → K 19 [some (.ref S), some (.int (nI a)), some (.ref r), some (.ref (W a)), some (.int (nI (g_len s a))), some (.int (nI i)), u] [] n (0 + 1) (0 + 20) M o1 := by
    intro f
    induction f with
    | zero => intro i u o1 h1 h2; omega
    | succ f ih =>
      intro i u o1 h1 h2 hk hr hR
      refine k_iload hK ti_61_19 rfl ?_
      refine k_iload hK ti_61_21 rfl ?_
      refine kn_ge hK (by omega) (by omega) ti_61_23 jt_23_28 (fun c_23 => ?_) (fun c_23 => ?_)
      · have hw40 := hW.2.2.2.2.1 a i (by omega) c_23
        have hs20 := hW.2.2.1 (g_wd s a i) hw40
        have htm : tmi s a (g_st s (g_wd s a i)) i ≤ i := cnt_le _ _
        refine k_aload_n hK ti_61_26 rfl ?_
        refine k_iload hK ti_61_27 rfl ?_
        refine n_iald hK ((nI (g_wd s a i))) i ti_61_29 (hR.wd a (by omega)) (by omega) rfl (by omega) rfl ?_
        refine k_istore hK (L' := [some (.ref S), some (.int _), some (.ref r), some (.ref (W a)), some (.int _), some (.int _), some (.int _)]) ti_61_30 rfl ?_
        refine k_aload_n hK ti_61_32 rfl ?_
        refine k_aload_n hK ti_61_33 rfl ?_
        refine n_get hK (.ref hs) ti_61_34 ow_61 fd_5_7 hR.ob rfl ?_
        refine k_iload hK ti_61_37 rfl ?_
        refine n_iald hK ((nI (g_st s (g_wd s a i)))) (g_wd s a i) ti_61_39 hR.st (by omega) rfl (by omega) rfl ?_
        refine k_dup2 hK ti_61_40 rfl rfl ?_
        refine n_iald hK ((nI (tmi s a (g_st s (g_wd s a i)) i))) (g_st s (g_wd s a i)) ti_61_41 hr (by omega) rfl (by omega) rfl ?_
        refine k_iconst hK ti_61_42 kI_1 ?_
        refine k_iadd hK (z := (nI (tmi s a (g_st s (g_wd s a i)) (i + 1)))) ti_61_43 (by rw [nI_add, tmi_t rfl]) ?_
        refine n_iast hK (g_st s (g_wd s a i)) ti_61_44 hr (by omega) rfl (by omega) (fun o_44 w_44 a_44 => ?_)
        refine k_iinc hK (L' := [some (.ref S), some (.int _), some (.ref r), some (.ref (W a)), some (.int _), some (.int (nI (i + 1))), some (.int _)]) ti_61_45 rfl (by rw [kI_1, nI_add]) rfl ?_
        refine k_goto hK ti_61_48 jt_48_m29 ?_
        exact ih (i + 1) _ _ (by omega) (by omega) (hk.wr f_2 w_44) (a_44.congr (fun x hx => by by_cases e1 : x = g_st s (g_wd s a i); (rw [if_pos e1, e1]); rw [if_neg e1, tmi_f (fun z => e1 z.symm)])) (hR0.kp (hk.wr f_2 w_44))
      · obtain rfl : i = g_len s a := by omega
        refine k_aload_n hK ti_61_51 rfl ?_
        refine k_areturn hK ti_61_52 rk_61 (by decide) mc_61 ms_61 (Nat.le_of_ble_eq_true rfl) (Nat.le_of_ble_eq_true rfl) ?_
        exact h r o1 f_2 hk hr
  exact loop ((g_len s a) - 0 + 1) 0 _ _ (by omega) (by omega) k_2 (a_2.congr (fun _ _ => rfl)) hR
