/-! The class: bits, what is told. (written by wip/whole/cls2.py) -/
set_option maxRecDepth 100000 in
set_option maxHeartbeats 4000000 in
theorem sp_J6_bitCount {X : dp_X} {d n : Nat} {M : dp_M} {o : dp_O} {Q : dp_Q} (h65 : 65 ≤ n) (m : Nat) (hm : m < 2 ^ 16) (h : Q (.inl (some (.int (nI (pc16 m))))) M o) : dp_run X (d + 0 + 1) 69 [.int (nI m)] n M o Q := by
  apply k_run
  intro K hK
  rw [mL_69]
  show K 0 [some (.int (nI m))] [] n 0 0 M o
  have b1 : bc1 m ≤ m := Nat.sub_le _ _
  have b2 := land_l (m / 2) 1431655765
  have b3 : bc2 (bc1 m) ≤ bc1 m + bc1 m / 4 := Nat.add_le_add (land_l _ _) (land_l _ _)
  have b4 : bc3 (bc2 (bc1 m)) ≤ 252645135 := land_r _ _
  have b5 : bc4 (bc3 (bc2 (bc1 m))) = bc3 (bc2 (bc1 m)) + bc3 (bc2 (bc1 m)) / 256 := rfl
  have b6 : bc5 (bc4 (bc3 (bc2 (bc1 m)))) = bc4 (bc3 (bc2 (bc1 m))) + bc4 (bc3 (bc2 (bc1 m))) / 65536 := rfl
  refine k_iload_n hK ti_69_0 rfl ?_
  refine k_iload_n hK ti_69_1 rfl ?_
  refine k_iconst hK ti_69_2 kI_1 ?_
  refine k_iushr hK (z := (nI (m / 2))) ti_69_3 (pk_ushrN (n := m) (by omega) _ 1 (by decide)) ?_
  refine k_ldc_w hK ti_69_4 (by rw [ow_69]; exact lci_265) ?_
  refine k_iand hK (z := (nI ((m / 2).land 1431655765))) ti_69_7 nI_and ?_
  refine k_isub hK (z := (nI (bc1 m))) ti_69_8 (pk_sub (by omega)) ?_
  refine k_istore_n hK (L' := [some (.int _)]) ti_69_9 rfl ?_
  refine k_iload_n hK ti_69_10 rfl ?_
  refine k_ldc_w hK ti_69_11 (by rw [ow_69]; exact lci_266) ?_
  refine k_iand hK (z := (nI ((bc1 m).land 858993459))) ti_69_14 nI_and ?_
  refine k_iload_n hK ti_69_15 rfl ?_
  refine k_iconst hK ti_69_16 kI_2 ?_
  refine k_iushr hK (z := (nI (bc1 m / 4))) ti_69_17 (pk_ushrN (n := bc1 m) (by omega) _ 2 (by decide)) ?_
  refine k_ldc_w hK ti_69_18 (by rw [ow_69]; exact lci_266) ?_
  refine k_iand hK (z := (nI ((bc1 m / 4).land 858993459))) ti_69_21 nI_and ?_
  refine k_iadd hK (z := (nI (bc2 (bc1 m)))) ti_69_22 (nI_add _ _) ?_
  refine k_istore_n hK (L' := [some (.int _)]) ti_69_23 rfl ?_
  refine k_iload_n hK ti_69_24 rfl ?_
  refine k_iload_n hK ti_69_25 rfl ?_
  refine k_iconst hK ti_69_26 kI_4 ?_
  refine k_iushr hK (z := (nI (bc2 (bc1 m) / 16))) ti_69_27 (pk_ushrN (n := bc2 (bc1 m)) (by omega) _ 4 (by decide)) ?_
  refine k_iadd hK (z := (nI (bc2 (bc1 m) + (bc2 (bc1 m) / 16)))) ti_69_28 (nI_add _ _) ?_
  refine k_ldc_w hK ti_69_29 (by rw [ow_69]; exact lci_267) ?_
  refine k_iand hK (z := (nI (bc3 (bc2 (bc1 m))))) ti_69_32 nI_and ?_
  refine k_istore_n hK (L' := [some (.int _)]) ti_69_33 rfl ?_
  refine k_iload_n hK ti_69_34 rfl ?_
  refine k_iload_n hK ti_69_35 rfl ?_
  refine k_bipush hK ti_69_36 kB_8 ?_
  refine k_iushr hK (z := (nI (bc3 (bc2 (bc1 m)) / 256))) ti_69_38 (pk_ushrN (n := bc3 (bc2 (bc1 m))) (by omega) _ 8 (by decide)) ?_
  refine k_iadd hK (z := (nI (bc4 (bc3 (bc2 (bc1 m)))))) ti_69_39 (nI_add _ _) ?_
  refine k_istore_n hK (L' := [some (.int _)]) ti_69_40 rfl ?_
  refine k_iload_n hK ti_69_41 rfl ?_
  refine k_iload_n hK ti_69_42 rfl ?_
  refine k_bipush hK ti_69_43 kB_16 ?_
  refine k_iushr hK (z := (nI (bc4 (bc3 (bc2 (bc1 m))) / 65536))) ti_69_45 (pk_ushrN (n := bc4 (bc3 (bc2 (bc1 m)))) (by omega) _ 16 (by decide)) ?_
  refine k_iadd hK (z := (nI (bc5 (bc4 (bc3 (bc2 (bc1 m))))))) ti_69_46 (nI_add _ _) ?_
  refine k_istore_n hK (L' := [some (.int _)]) ti_69_47 rfl ?_
  refine k_iload_n hK ti_69_48 rfl ?_
  refine k_bipush hK ti_69_49 kB_63 ?_
  refine k_iand hK (z := (nI (pc16 m))) ti_69_51 (by rw [← bc_pc16 hm]; exact pk_andN (by omega) 6 (by decide)) ?_
  refine k_ireturn hK ti_69_52 rk_69 mc_69 ms_69 (Nat.le_of_ble_eq_true rfl) (Nat.le_of_ble_eq_true rfl) ?_
  exact h

set_option maxRecDepth 100000 in
set_option maxHeartbeats 4000000 in
theorem sp_X0_receivers {X : dp_X} {d n : Nat} {M : dp_M} {o : dp_O} {Q : dp_Q} (h65 : 65 ≤ n) {s : GSt} {l : LSt} (a : Nat) (hC : CG M s) (hN : CLn M l) (hV : WFL s l) (ha : a < 16) (h : Q (.inl (some (.int (nI (rcv s l a))))) M o) : dp_run X (d + 1 + 1) 4 [.ref 3, .int (nI a)] n M o Q := by
  apply k_run
  intro K hK
  rw [mL_4]
  show K 0 [some (.ref 3), some (.int (nI a)), none, none] [] n 0 0 M o
  have hA16 := hC.w.1
  have hC6 := hC.w.2.1
  have e9 := hV.rcv hC.w (a := a)
  rw [← e9] at h
  refine k_iconst hK ti_4_0 kI_0 ?_
  refine k_istore_n hK (L' := [some (.ref 3), some (.int _), some (.int _), none]) ti_4_1 rfl ?_
  refine k_iconst hK ti_4_2 kI_0 ?_
  refine k_istore_n hK (L' := [some (.ref 3), some (.int _), some (.int _), some (.int _)]) ti_4_3 rfl ?_
  have loop : ∀ (f i : Nat), i ≤ 6 → 6 - i < f → K 4 [some (.ref 3), some (.int (nI a)), some (.int (nI (cnt i (fun c => bit (l_sent l c) a)))), some (.int (nI i))] [] n 0 0 M o := by
    intro f
    induction f with
    | zero => intro i h1 h2; omega
    | succ f ih =>
      intro i h1 h2
      refine k_iload_n hK ti_4_4 rfl ?_
      refine k_bipush hK ti_4_5 kB_6 ?_
      refine kn_ge hK (by omega) (by omega) ti_4_7 jt_7_21 (fun c_7 => ?_) (fun c_7 => ?_)
      · refine k_aload_n hK ti_4_10 rfl ?_
        refine k_iload_n hK ti_4_11 rfl ?_
        refine k_iload_n hK ti_4_12 rfl ?_
        refine k_callV hK (as := [.int _, .int _]) (st' := []) ti_4_13 ow_4 iv_0_34 mc_4 ms_4 rfl rfl (by omega) (Nat.le_of_ble_eq_true rfl) (Nat.le_of_ble_eq_true rfl) (Nat.le_of_ble_eq_true rfl) (Nat.le_of_ble_eq_true rfl) (by omega) rfl ?_
        refine sp_X0_wasSent_n (by omega) i a hN (by omega) (by omega) ?_
        refine kb_eq hK ti_4_16 jt_16_6 (fun c_16 => ?_) (fun c_16 => ?_)
        · · rw [← (cnt_f (by simp [c_16]) : cnt (i + 1) (fun c => bit (l_sent l c) a) = cnt i (fun c => bit (l_sent l c) a))]
            refine k_iinc hK (L' := [some (.ref 3), some (.int _), some (.int _), some (.int (nI (i + 1)))]) ti_4_22 rfl (by rw [kI_1, nI_add]) rfl ?_
            refine k_goto hK ti_4_25 jt_25_m21 ?_
            exact ih (i + 1) (by omega) (by omega) 
        · refine k_iinc hK (L' := [some (.ref 3), some (.int _), some (.int (nI (cnt (i + 1) (fun c => bit (l_sent l c) a)))), some (.int _)]) ti_4_19 rfl (by rw [cnt_t (by simp [c_16]), kI_1, nI_add]) rfl ?_
          refine k_iinc hK (L' := [some (.ref 3), some (.int _), some (.int _), some (.int (nI (i + 1)))]) ti_4_22 rfl (by rw [kI_1, nI_add]) rfl ?_
          refine k_goto hK ti_4_25 jt_25_m21 ?_
          exact ih (i + 1) (by omega) (by omega) 
      · obtain rfl : i = 6 := by omega
        refine k_iload_n hK ti_4_28 rfl ?_
        refine k_ireturn hK ti_4_29 rk_4 mc_4 ms_4 (Nat.le_of_ble_eq_true rfl) (Nat.le_of_ble_eq_true rfl) ?_
        exact h
  exact loop (6 - 0 + 1) 0 (by omega) (by omega) 

set_option maxRecDepth 100000 in
set_option maxHeartbeats 4000000 in
theorem sp_X0_sentInAll {X : dp_X} {d n : Nat} {M : dp_M} {o : dp_O} {Q : dp_Q} (h65 : 65 ≤ n) {s : GSt} {l : LSt} (hC : CG M s) (hN : CLn M l) (hV : WFL s l) (h : Q (.inl (some (.int (nI (sntA s l))))) M o) : dp_run X (d + 1 + 1) 5 [.ref 3] n M o Q := by
  apply k_run
  intro K hK
  rw [mL_5]
  show K 0 [some (.ref 3), none, none] [] n 0 0 M o
  have hA16 := hC.w.1
  have hC6 := hC.w.2.1
  have e9 := hV.all hC.w
  rw [← e9] at h
  refine k_iconst hK ti_5_0 kI_0 ?_
  refine k_istore_n hK (L' := [some (.ref 3), some (.int _), none]) ti_5_1 rfl ?_
  refine k_iconst hK ti_5_2 kI_0 ?_
  refine k_istore_n hK (L' := [some (.ref 3), some (.int _), some (.int _)]) ti_5_3 rfl ?_
  have loop : ∀ (f i : Nat), i ≤ 6 → 6 - i < f → K 4 [some (.ref 3), some (.int (nI (sN i (fun c => pc16 (l_sent l c))))), some (.int (nI i))] [] n 0 0 M o := by
    intro f
    induction f with
    | zero => intro i h1 h2; omega
    | succ f ih =>
      intro i h1 h2
      refine k_iload_n hK ti_5_4 rfl ?_
      refine k_bipush hK ti_5_5 kB_6 ?_
      refine kn_ge hK (by omega) (by omega) ti_5_7 jt_7_21 (fun c_7 => ?_) (fun c_7 => ?_)
      · have hs16 := hN.1 i c_7
        refine k_iload_n hK ti_5_10 rfl ?_
        refine k_aload_n hK ti_5_11 rfl ?_
        refine k_get hK ti_5_12 ow_5 fd_0_21 (by omega) rfl rfl ?_
        refine k_iload_n hK ti_5_15 rfl ?_
        refine k_ialdv (v := (nI (l_sent l i))) hK i ti_5_16 rfl (by omega) (by omega) rfl (by rw [dpl_17]; omega) (hN.2.2.1 i (by omega)).2.2 ?_
        refine k_callS hK (as := [.int _]) (st' := [.int _]) ti_5_17 ow_5 iv_0_38 mc_5 ms_5 rfl rfl (by omega) (Nat.le_of_ble_eq_true rfl) (Nat.le_of_ble_eq_true rfl) (Nat.le_of_ble_eq_true rfl) (Nat.le_of_ble_eq_true rfl) ?_
        refine sp_J6_bitCount (by omega) (l_sent l i) (by omega) ?_
        refine k_iadd hK (z := (nI (sN (i + 1) (fun c => pc16 (l_sent l c))))) ti_5_20 (nI_add _ _) ?_
        refine k_istore_n hK (L' := [some (.ref 3), some (.int _), some (.int _)]) ti_5_21 rfl ?_
        refine k_iinc hK (L' := [some (.ref 3), some (.int _), some (.int (nI (i + 1)))]) ti_5_22 rfl (by rw [kI_1, nI_add]) rfl ?_
        refine k_goto hK ti_5_25 jt_25_m21 ?_
        exact ih (i + 1) (by omega) (by omega) 
      · obtain rfl : i = 6 := by omega
        refine k_iload_n hK ti_5_28 rfl ?_
        refine k_ireturn hK ti_5_29 rk_5 mc_5 ms_5 (Nat.le_of_ble_eq_true rfl) (Nat.le_of_ble_eq_true rfl) ?_
        exact h
  exact loop (6 - 0 + 1) 0 (by omega) (by omega) 

set_option maxRecDepth 100000 in
set_option maxHeartbeats 4000000 in
theorem sp_X0_paidInAll {X : dp_X} {d n : Nat} {M : dp_M} {o : dp_O} {Q : dp_Q} (h65 : 65 ≤ n) {s : GSt} {l : LSt} (hC : CG M s) (hN : CLn M l) (hV : WFL s l) (h : Q (.inl (some (.int (pdA s l)))) M o) : dp_run X (d + 0 + 1) 6 [.ref 3] n M o Q := by
  apply k_run
  intro K hK
  rw [mL_6]
  show K 0 [some (.ref 3), none, none] [] n 0 0 M o
  have hA16 := hC.w.1
  have hC6 := hC.w.2.1
  have e9 := hV.paid hC.w
  rw [← e9] at h
  refine k_iconst hK ti_6_0 kI_0 ?_
  refine k_istore_n hK (L' := [some (.ref 3), some (.int _), none]) ti_6_1 rfl ?_
  refine k_iconst hK ti_6_2 kI_0 ?_
  refine k_istore_n hK (L' := [some (.ref 3), some (.int _), some (.int _)]) ti_6_3 rfl ?_
  have loop : ∀ (f i : Nat), i ≤ 6 → 6 - i < f → K 4 [some (.ref 3), some (.int (sm i (l_paid l))), some (.int (nI i))] [] n 0 0 M o := by
    intro f
    induction f with
    | zero => intro i h1 h2; omega
    | succ f ih =>
      intro i h1 h2
      refine k_iload_n hK ti_6_4 rfl ?_
      refine k_bipush hK ti_6_5 kB_6 ?_
      refine kn_ge hK (by omega) (by omega) ti_6_7 jt_7_18 (fun c_7 => ?_) (fun c_7 => ?_)
      · refine k_iload_n hK ti_6_10 rfl ?_
        refine k_aload_n hK ti_6_11 rfl ?_
        refine k_get hK ti_6_12 ow_6 fd_0_18 (by omega) rfl rfl ?_
        refine k_iload_n hK ti_6_15 rfl ?_
        refine k_ialdv (v := (l_paid l i)) hK i ti_6_16 rfl (by omega) (by omega) rfl (by rw [dpl_16]; omega) (hN.2.2.1 i (by omega)).2.1 ?_
        refine k_iadd hK (z := (sm (i + 1) (l_paid l))) ti_6_17 rfl ?_
        refine k_istore_n hK (L' := [some (.ref 3), some (.int _), some (.int _)]) ti_6_18 rfl ?_
        refine k_iinc hK (L' := [some (.ref 3), some (.int _), some (.int (nI (i + 1)))]) ti_6_19 rfl (by rw [kI_1, nI_add]) rfl ?_
        refine k_goto hK ti_6_22 jt_22_m18 ?_
        exact ih (i + 1) (by omega) (by omega) 
      · obtain rfl : i = 6 := by omega
        refine k_iload_n hK ti_6_25 rfl ?_
        refine k_ireturn hK ti_6_26 rk_6 mc_6 ms_6 (Nat.le_of_ble_eq_true rfl) (Nat.le_of_ble_eq_true rfl) ?_
        exact h
  exact loop (6 - 0 + 1) 0 (by omega) (by omega) 

set_option maxRecDepth 100000 in
set_option maxHeartbeats 4000000 in
theorem sp_X3_scoreFor_n {X : dp_X} {d n : Nat} {M : dp_M} {o : dp_O} {Q : dp_Q} (h65 : 65 ≤ n) {s : GSt} {l : LSt} (c a : Nat) (hC : CG M s) (hN : CLn M l) (hc : c < 6) (ha : a < 16) (h : Q (.inl (some (.int (sc s l c a)))) M o) : dp_run X (d + 2 + 1) 48 [.ref 0, .ref 3, .int (nI c), .int (nI a)] n M o Q := by
  apply k_run
  intro K hK
  rw [mL_48]
  show K 0 [some (.ref 0), some (.ref 3), some (.int (nI c)), some (.int (nI a))] [] n 0 0 M o
  have hA16 := hC.w.1
  have hC6 := hC.w.2.1
  have hm5 := hC.w.2.2.2.2.2.1 c hc
  have hw7 := hC.w.2.2.2.2.2.2 c
  refine k_aload_n hK ti_48_0 rfl ?_
  refine k_get hK ti_48_1 ow_48 fd_3_10 (by omega) rfl rfl ?_
  refine k_iload_n hK ti_48_4 rfl ?_
  refine k_aload_n hK ti_48_5 rfl ?_
  refine k_get hK ti_48_6 ow_48 fd_3_19 (by omega) rfl rfl ?_
  refine k_get hK ti_48_9 ow_48 fd_3_108 (by omega) rfl rfl ?_
  refine k_iload_n hK ti_48_12 rfl ?_
  refine k_aald11 hK c ti_48_13 (by omega) rfl (by omega) ?_
  refine k_aload_n hK ti_48_14 rfl ?_
  refine k_get hK ti_48_15 ow_48 fd_3_19 (by omega) rfl rfl ?_
  refine k_get hK ti_48_18 ow_48 fd_3_97 (by omega) rfl rfl ?_
  refine k_iload_n hK ti_48_21 rfl ?_
  refine k_ialdv (v := (nI (g_many s c))) hK c ti_48_22 rfl (by omega) (by omega) rfl (by rw [dpl_12]; omega) (hC.many c (by omega)) ?_
  refine k_aload_n hK ti_48_23 rfl ?_
  refine k_get hK ti_48_24 ow_48 fd_3_217 (by omega) rfl rfl ?_
  refine k_iload_n hK ti_48_27 rfl ?_
  refine k_ialdv (v := (l_age l a)) hK a ti_48_28 rfl (by omega) (by omega) rfl (by rw [dpl_14]; omega) (hN.2.1 a (by omega)) ?_
  refine k_callV hK (as := [.int _, .ref (59 + c), .int _, .int _]) (st' := []) ti_48_29 ow_48 iv_3_243 mc_48 ms_48 rfl rfl (by omega) (Nat.le_of_ble_eq_true rfl) (Nat.le_of_ble_eq_true rfl) (Nat.le_of_ble_eq_true rfl) (Nat.le_of_ble_eq_true rfl) (by omega) rfl ?_
  refine sp_X2_scoreOf (by omega) a (59 + c) (g_wish s c) (g_many s c) (l_age l a) hC ha (by omega) (dp_isA_t _ (by omega)) hm5 (by rw [dpl_59 _ hc]; exact hm5) (fun i hi => ⟨hC.wish c i hc hi, hw7 i hc hi⟩) ?_
  refine k_ireturn hK ti_48_32 rk_48 mc_48 ms_48 (Nat.le_of_ble_eq_true rfl) (Nat.le_of_ble_eq_true rfl) ?_
  exact h

set_option maxRecDepth 100000 in
set_option maxHeartbeats 4000000 in
theorem sp_X3_isFit_n {X : dp_X} {d n : Nat} {M : dp_M} {o : dp_O} {Q : dp_Q} (h65 : 65 ≤ n) {s : GSt} {l : LSt} (c a : Nat) (x : Int32) (hC : CG M s) (hN : CLn M l) (hc : c < g_nC s) (ha : a < 16) (h : Q (.inl (some (.int (bl (!decide (x < g_bar s c) && !bit (l_sent l c) a))))) M o) : dp_run X (d + 1 + 1) 49 [.ref 0, .ref 3, .int (nI c), .int (nI a), .int x] n M o Q := by
  apply k_run
  intro K hK
  rw [mL_49]
  show K 0 [some (.ref 0), some (.ref 3), some (.int (nI c)), some (.int (nI a)), some (.int x)] [] n 0 0 M o
  have hA16 := hC.w.1
  have hC6 := hC.w.2.1
  refine k_iload hK ti_49_0 rfl ?_
  refine k_aload_n hK ti_49_2 rfl ?_
  refine k_get hK ti_49_3 ow_49 fd_3_19 (by omega) rfl rfl ?_
  refine k_get hK ti_49_6 ow_49 fd_3_115 (by omega) rfl rfl ?_
  refine k_iload_n hK ti_49_9 rfl ?_
  refine k_ialdv (v := (g_bar s c)) hK c ti_49_10 rfl (by omega) (by omega) rfl (by rw [dpl_13]; omega) (hC.bar c (by omega)) ?_
  refine k_icmp_lt hK ti_49_11 jt_11_16 (fun c_11 => ?_) (fun c_11 => ?_)
  · have e : (!decide (x < g_bar s c) && !bit (l_sent l c) a) = false := by simp [c_11]
    rw [e] at h
    refine k_iconst hK ti_49_27 kI_0 ?_
    refine k_zreturn hK ti_49_28 rk_49 mc_49 ms_49 (Nat.le_of_ble_eq_true rfl) (Nat.le_of_ble_eq_true rfl) (by decide) ?_
    exact h
  · refine k_aload_n hK ti_49_14 rfl ?_
    refine k_iload_n hK ti_49_15 rfl ?_
    refine k_iload_n hK ti_49_16 rfl ?_
    refine k_callV hK (as := [.int _, .int _]) (st' := []) ti_49_17 ow_49 iv_3_247 mc_49 ms_49 rfl rfl (by omega) (Nat.le_of_ble_eq_true rfl) (Nat.le_of_ble_eq_true rfl) (Nat.le_of_ble_eq_true rfl) (Nat.le_of_ble_eq_true rfl) (by omega) rfl ?_
    refine sp_X0_wasSent_n (by omega) c a hN (by omega) (by omega) ?_
    refine kb_ne hK ti_49_20 jt_20_7 (fun c_20 => ?_) (fun c_20 => ?_)
    · have e : (!decide (x < g_bar s c) && !bit (l_sent l c) a) = true := by simp [c_11, c_20]
      rw [e] at h
      refine k_iconst hK ti_49_23 kI_1 ?_
      refine k_goto hK ti_49_24 jt_24_4 ?_
      refine k_zreturn hK ti_49_28 rk_49 mc_49 ms_49 (Nat.le_of_ble_eq_true rfl) (Nat.le_of_ble_eq_true rfl) (by decide) ?_
      exact h
    · have e : (!decide (x < g_bar s c) && !bit (l_sent l c) a) = false := by simp [c_20]
      rw [e] at h
      refine k_iconst hK ti_49_27 kI_0 ?_
      refine k_zreturn hK ti_49_28 rk_49 mc_49 ms_49 (Nat.le_of_ble_eq_true rfl) (Nat.le_of_ble_eq_true rfl) (by decide) ?_
      exact h

set_option maxRecDepth 100000 in
set_option maxHeartbeats 4000000 in
theorem sp_X3_priceFor_n {X : dp_X} {d n : Nat} {M : dp_M} {o : dp_O} {Q : dp_Q} (h65 : 65 ≤ n) {s : GSt} {l : LSt} (c a : Nat) (hC : CG M s) (hN : CLn M l) (hc : c < 6) (ha : a < 16) (h : Q (.inl (some (.int (prc s l c a)))) M o) : dp_run X (d + 3 + 1) 54 [.ref 0, .ref 3, .int (nI c), .int (nI a)] n M o Q := by
  apply k_run
  intro K hK
  rw [mL_54]
  show K 0 [some (.ref 0), some (.ref 3), some (.int (nI c)), some (.int (nI a))] [] n 0 0 M o
  have hA16 := hC.w.1
  have hC6 := hC.w.2.1
  refine k_iconst hK ti_54_0 kI_2 ?_
  refine k_aload_n hK ti_54_1 rfl ?_
  refine k_aload_n hK ti_54_2 rfl ?_
  refine k_iload_n hK ti_54_3 rfl ?_
  refine k_iload_n hK ti_54_4 rfl ?_
  refine k_callV hK (as := [.ref 3, .int _, .int _]) (st' := [.int _]) ti_54_5 ow_54 iv_3_156 mc_54 ms_54 rfl rfl (by omega) (Nat.le_of_ble_eq_true rfl) (Nat.le_of_ble_eq_true rfl) (Nat.le_of_ble_eq_true rfl) (Nat.le_of_ble_eq_true rfl) (by omega) rfl ?_
  refine sp_X3_scoreFor_n (by omega) c a hC hN (by omega) (by omega) ?_
  refine k_bipush hK ti_54_8 kB_20 ?_
  refine k_idiv hK ti_54_10 (by decide) rfl ?_
  refine k_iadd hK (z := (prc s l c a)) ti_54_11 rfl ?_
  refine k_ireturn hK ti_54_12 rk_54 mc_54 ms_54 (Nat.le_of_ble_eq_true rfl) (Nat.le_of_ble_eq_true rfl) ?_
  exact h

set_option maxRecDepth 100000 in
set_option maxHeartbeats 4000000 in
theorem sp_X3_bestFit_n {X : dp_X} {d n : Nat} {M : dp_M} {o : dp_O} {Q : dp_Q} (h65 : 65 ≤ n) {s : GSt} {l : LSt} (c : Nat) (hC : CG M s) (hN : CLn M l) (hc : c < g_nC s) (h : Q (.inl (some (.int (oI (fA s l c 0))))) M o) : dp_run X (d + 3 + 1) 51 [.ref 0, .ref 3, .int (nI c)] n M o Q := by
  apply k_run
  intro K hK
  rw [mL_51]
  show K 0 [some (.ref 0), some (.ref 3), some (.int (nI c)), none, none, none, none] [] n 0 0 M o
  have hA16 := hC.w.1
  have hC6 := hC.w.2.1
  rw [← bf_fA] at h
  refine k_iconst hK ti_51_0 kI_m1 ?_
  refine k_istore_n hK (L' := [some (.ref 0), some (.ref 3), some (.int _), some (.int _), none, none, none]) ti_51_1 rfl ?_
  refine k_iconst hK ti_51_2 kI_m1 ?_
  refine k_istore hK (L' := [some (.ref 0), some (.ref 3), some (.int _), some (.int _), some (.int _), none, none]) ti_51_3 rfl ?_
  refine k_iconst hK ti_51_5 kI_0 ?_
  refine k_istore hK (L' := [some (.ref 0), some (.ref 3), some (.int _), some (.int _), some (.int _), some (.int _), none]) ti_51_6 rfl ?_
  have loop : ∀ (f i : Nat) (u : Option Value), i ≤ (g_nA s) → (g_nA s) - i < f → K 8 [some (.ref 0), some (.ref 3), some (.int (nI c)), some (.int (oI (bf s l c i).1)), some (.int ((bf s l c i).2)), some (.int (nI i)), u] [] n 0 0 M o := by
    intro f
    induction f with
    | zero => intro i u h1 h2; omega
    | succ f ih =>
      intro i u h1 h2
      refine k_iload hK ti_51_8 rfl ?_
      refine k_aload_n hK ti_51_10 rfl ?_
      refine k_get hK ti_51_11 ow_51 fd_3_10 (by omega) rfl rfl ?_
      refine k_geti hK (nI (g_nA s)) ti_51_14 ow_51 fd_3_50 (by omega) rfl rfl hC.nA ?_
      refine kn_ge hK (by omega) (by omega) ti_51_17 jt_17_46 (fun c_17 => ?_) (fun c_17 => ?_)
      · refine k_aload_n hK ti_51_20 rfl ?_
        refine k_aload_n hK ti_51_21 rfl ?_
        refine k_iload_n hK ti_51_22 rfl ?_
        refine k_iload hK ti_51_23 rfl ?_
        refine k_callV hK (as := [.ref 3, .int _, .int _]) (st' := []) ti_51_25 ow_51 iv_3_156 mc_51 ms_51 rfl rfl (by omega) (Nat.le_of_ble_eq_true rfl) (Nat.le_of_ble_eq_true rfl) (Nat.le_of_ble_eq_true rfl) (Nat.le_of_ble_eq_true rfl) (by omega) rfl ?_
        refine sp_X3_scoreFor_n (by omega) c i hC hN (by omega) (by omega) ?_
        refine k_istore hK (L' := [some (.ref 0), some (.ref 3), some (.int _), some (.int _), some (.int _), some (.int _), some (.int _)]) ti_51_28 rfl ?_
        refine k_iload hK ti_51_30 rfl ?_
        refine k_iload hK ti_51_32 rfl ?_
        refine k_icmp_le hK ti_51_34 jt_34_23 (fun c_34 => ?_) (fun c_34 => ?_)
        · refine k_aload_n hK ti_51_37 rfl ?_
          refine k_aload_n hK ti_51_38 rfl ?_
          refine k_iload_n hK ti_51_39 rfl ?_
          refine k_iload hK ti_51_40 rfl ?_
          refine k_iload hK ti_51_42 rfl ?_
          refine k_callV hK (as := [.ref 3, .int _, .int _, .int _]) (st' := []) ti_51_44 ow_51 iv_3_251 mc_51 ms_51 rfl rfl (by omega) (Nat.le_of_ble_eq_true rfl) (Nat.le_of_ble_eq_true rfl) (Nat.le_of_ble_eq_true rfl) (Nat.le_of_ble_eq_true rfl) (by omega) rfl ?_
          refine sp_X3_isFit_n (by omega) c i ((sc s l c i)) hC hN (by omega) (by omega) (k_aftv (bl (fit s l c i)) (congrArg bl (Bool.and_comm _ _)) ?_)
          refine kb_eq hK ti_51_47 jt_47_10 (fun c_47 => ?_) (fun c_47 => ?_)
          · have e : bf s l c (i + 1) = bf s l c i := by rw [bf, if_neg (fun z => by simp [c_47] at z)]
            · refine k_eq (L' := [some (.ref 0), some (.ref 3), some (.int (nI c)), some (.int (oI (bf s l c (i + 1)).1)), some (.int ((bf s l c (i + 1)).2)), some (.int (nI i)), some (.int (sc s l c i))]) ?_ (by simp only [e] <;> rfl) rfl rfl
              refine k_iinc hK (L' := [some (.ref 0), some (.ref 3), some (.int _), some (.int _), some (.int _), some (.int (nI (i + 1))), some (.int _)]) ti_51_57 rfl (by rw [kI_1, nI_add]) rfl ?_
              refine k_goto hK ti_51_60 jt_60_m52 ?_
              exact ih (i + 1) _ (by omega) (by omega) 
          · have e : bf s l c (i + 1) = (some i, sc s l c i) := by rw [bf, if_pos ⟨c_34, c_47⟩]
            refine k_iload hK ti_51_50 rfl ?_
            refine k_istore hK (L' := [some (.ref 0), some (.ref 3), some (.int _), some (.int _), some (.int _), some (.int _), some (.int _)]) ti_51_52 rfl ?_
            refine k_iload hK ti_51_54 rfl ?_
            refine k_istore_n hK (L' := [some (.ref 0), some (.ref 3), some (.int _), some (.int _), some (.int _), some (.int _), some (.int _)]) ti_51_56 rfl ?_
            · refine k_eq (L' := [some (.ref 0), some (.ref 3), some (.int (nI c)), some (.int (oI (bf s l c (i + 1)).1)), some (.int ((bf s l c (i + 1)).2)), some (.int (nI i)), some (.int (sc s l c i))]) ?_ (by simp only [e] <;> rfl) rfl rfl
              refine k_iinc hK (L' := [some (.ref 0), some (.ref 3), some (.int _), some (.int _), some (.int _), some (.int (nI (i + 1))), some (.int _)]) ti_51_57 rfl (by rw [kI_1, nI_add]) rfl ?_
              refine k_goto hK ti_51_60 jt_60_m52 ?_
              exact ih (i + 1) _ (by omega) (by omega) 
        · have e : bf s l c (i + 1) = bf s l c i := by rw [bf, if_neg (fun z => c_34 z.1)]
          · refine k_eq (L' := [some (.ref 0), some (.ref 3), some (.int (nI c)), some (.int (oI (bf s l c (i + 1)).1)), some (.int ((bf s l c (i + 1)).2)), some (.int (nI i)), some (.int (sc s l c i))]) ?_ (by simp only [e] <;> rfl) rfl rfl
            refine k_iinc hK (L' := [some (.ref 0), some (.ref 3), some (.int _), some (.int _), some (.int _), some (.int (nI (i + 1))), some (.int _)]) ti_51_57 rfl (by rw [kI_1, nI_add]) rfl ?_
            refine k_goto hK ti_51_60 jt_60_m52 ?_
            exact ih (i + 1) _ (by omega) (by omega) 
      · obtain rfl : i = (g_nA s) := by omega
        refine k_iload_n hK ti_51_63 rfl ?_
        refine k_ireturn hK ti_51_64 rk_51 mc_51 ms_51 (Nat.le_of_ble_eq_true rfl) (Nat.le_of_ble_eq_true rfl) ?_
        exact h
  exact loop ((g_nA s) - 0 + 1) 0 _ (by omega) (by omega) 


set_option maxRecDepth 100000 in
set_option maxHeartbeats 4000000 in
theorem sp_X3_scoreFor_f {X : dp_X} {d n : Nat} {M : dp_M} {o : dp_O} {Q : dp_Q} (h65 : 65 ≤ n) {s : GSt} {l : LSt} (c a : Nat) (hC : CG M s) (hT : CLf M l) (hc : c < 6) (ha : a < 16) (h : Q (.inl (some (.int (sc s l c a)))) M o) : dp_run X (d + 2 + 1) 48 [.ref 0, .ref 4, .int (nI c), .int (nI a)] n M o Q := by
  apply k_run
  intro K hK
  rw [mL_48]
  show K 0 [some (.ref 0), some (.ref 4), some (.int (nI c)), some (.int (nI a))] [] n 0 0 M o
  have hA16 := hC.w.1
  have hC6 := hC.w.2.1
  have hm5 := hC.w.2.2.2.2.2.1 c hc
  have hw7 := hC.w.2.2.2.2.2.2 c
  refine k_aload_n hK ti_48_0 rfl ?_
  refine k_get hK ti_48_1 ow_48 fd_3_10 (by omega) rfl rfl ?_
  refine k_iload_n hK ti_48_4 rfl ?_
  refine k_aload_n hK ti_48_5 rfl ?_
  refine k_get hK ti_48_6 ow_48 fd_3_19 (by omega) rfl rfl ?_
  refine k_get hK ti_48_9 ow_48 fd_3_108 (by omega) rfl rfl ?_
  refine k_iload_n hK ti_48_12 rfl ?_
  refine k_aald11 hK c ti_48_13 (by omega) rfl (by omega) ?_
  refine k_aload_n hK ti_48_14 rfl ?_
  refine k_get hK ti_48_15 ow_48 fd_3_19 (by omega) rfl rfl ?_
  refine k_get hK ti_48_18 ow_48 fd_3_97 (by omega) rfl rfl ?_
  refine k_iload_n hK ti_48_21 rfl ?_
  refine k_ialdv (v := (nI (g_many s c))) hK c ti_48_22 rfl (by omega) (by omega) rfl (by rw [dpl_12]; omega) (hC.many c (by omega)) ?_
  refine k_aload_n hK ti_48_23 rfl ?_
  refine k_get hK ti_48_24 ow_48 fd_3_217 (by omega) rfl rfl ?_
  refine k_iload_n hK ti_48_27 rfl ?_
  refine k_ialdv (v := (l_age l a)) hK a ti_48_28 rfl (by omega) (by omega) rfl (by rw [dpl_18]; omega) (hT.2.1 a (by omega)) ?_
  refine k_callV hK (as := [.int _, .ref (59 + c), .int _, .int _]) (st' := []) ti_48_29 ow_48 iv_3_243 mc_48 ms_48 rfl rfl (by omega) (Nat.le_of_ble_eq_true rfl) (Nat.le_of_ble_eq_true rfl) (Nat.le_of_ble_eq_true rfl) (Nat.le_of_ble_eq_true rfl) (by omega) rfl ?_
  refine sp_X2_scoreOf (by omega) a (59 + c) (g_wish s c) (g_many s c) (l_age l a) hC ha (by omega) (dp_isA_t _ (by omega)) hm5 (by rw [dpl_59 _ hc]; exact hm5) (fun i hi => ⟨hC.wish c i hc hi, hw7 i hc hi⟩) ?_
  refine k_ireturn hK ti_48_32 rk_48 mc_48 ms_48 (Nat.le_of_ble_eq_true rfl) (Nat.le_of_ble_eq_true rfl) ?_
  exact h

set_option maxRecDepth 100000 in
set_option maxHeartbeats 4000000 in
theorem sp_X3_isFit_f {X : dp_X} {d n : Nat} {M : dp_M} {o : dp_O} {Q : dp_Q} (h65 : 65 ≤ n) {s : GSt} {l : LSt} (c a : Nat) (x : Int32) (hC : CG M s) (hT : CLf M l) (hc : c < g_nC s) (ha : a < 16) (h : Q (.inl (some (.int (bl (!decide (x < g_bar s c) && !bit (l_sent l c) a))))) M o) : dp_run X (d + 1 + 1) 49 [.ref 0, .ref 4, .int (nI c), .int (nI a), .int x] n M o Q := by
  apply k_run
  intro K hK
  rw [mL_49]
  show K 0 [some (.ref 0), some (.ref 4), some (.int (nI c)), some (.int (nI a)), some (.int x)] [] n 0 0 M o
  have hA16 := hC.w.1
  have hC6 := hC.w.2.1
  refine k_iload hK ti_49_0 rfl ?_
  refine k_aload_n hK ti_49_2 rfl ?_
  refine k_get hK ti_49_3 ow_49 fd_3_19 (by omega) rfl rfl ?_
  refine k_get hK ti_49_6 ow_49 fd_3_115 (by omega) rfl rfl ?_
  refine k_iload_n hK ti_49_9 rfl ?_
  refine k_ialdv (v := (g_bar s c)) hK c ti_49_10 rfl (by omega) (by omega) rfl (by rw [dpl_13]; omega) (hC.bar c (by omega)) ?_
  refine k_icmp_lt hK ti_49_11 jt_11_16 (fun c_11 => ?_) (fun c_11 => ?_)
  · have e : (!decide (x < g_bar s c) && !bit (l_sent l c) a) = false := by simp [c_11]
    rw [e] at h
    refine k_iconst hK ti_49_27 kI_0 ?_
    refine k_zreturn hK ti_49_28 rk_49 mc_49 ms_49 (Nat.le_of_ble_eq_true rfl) (Nat.le_of_ble_eq_true rfl) (by decide) ?_
    exact h
  · refine k_aload_n hK ti_49_14 rfl ?_
    refine k_iload_n hK ti_49_15 rfl ?_
    refine k_iload_n hK ti_49_16 rfl ?_
    refine k_callV hK (as := [.int _, .int _]) (st' := []) ti_49_17 ow_49 iv_3_247 mc_49 ms_49 rfl rfl (by omega) (Nat.le_of_ble_eq_true rfl) (Nat.le_of_ble_eq_true rfl) (Nat.le_of_ble_eq_true rfl) (Nat.le_of_ble_eq_true rfl) (by omega) rfl ?_
    refine sp_X0_wasSent_f (by omega) c a hT (by omega) (by omega) ?_
    refine kb_ne hK ti_49_20 jt_20_7 (fun c_20 => ?_) (fun c_20 => ?_)
    · have e : (!decide (x < g_bar s c) && !bit (l_sent l c) a) = true := by simp [c_11, c_20]
      rw [e] at h
      refine k_iconst hK ti_49_23 kI_1 ?_
      refine k_goto hK ti_49_24 jt_24_4 ?_
      refine k_zreturn hK ti_49_28 rk_49 mc_49 ms_49 (Nat.le_of_ble_eq_true rfl) (Nat.le_of_ble_eq_true rfl) (by decide) ?_
      exact h
    · have e : (!decide (x < g_bar s c) && !bit (l_sent l c) a) = false := by simp [c_20]
      rw [e] at h
      refine k_iconst hK ti_49_27 kI_0 ?_
      refine k_zreturn hK ti_49_28 rk_49 mc_49 ms_49 (Nat.le_of_ble_eq_true rfl) (Nat.le_of_ble_eq_true rfl) (by decide) ?_
      exact h

set_option maxRecDepth 100000 in
set_option maxHeartbeats 4000000 in
theorem sp_X3_priceFor_f {X : dp_X} {d n : Nat} {M : dp_M} {o : dp_O} {Q : dp_Q} (h65 : 65 ≤ n) {s : GSt} {l : LSt} (c a : Nat) (hC : CG M s) (hT : CLf M l) (hc : c < 6) (ha : a < 16) (h : Q (.inl (some (.int (prc s l c a)))) M o) : dp_run X (d + 3 + 1) 54 [.ref 0, .ref 4, .int (nI c), .int (nI a)] n M o Q := by
  apply k_run
  intro K hK
  rw [mL_54]
  show K 0 [some (.ref 0), some (.ref 4), some (.int (nI c)), some (.int (nI a))] [] n 0 0 M o
  have hA16 := hC.w.1
  have hC6 := hC.w.2.1
  refine k_iconst hK ti_54_0 kI_2 ?_
  refine k_aload_n hK ti_54_1 rfl ?_
  refine k_aload_n hK ti_54_2 rfl ?_
  refine k_iload_n hK ti_54_3 rfl ?_
  refine k_iload_n hK ti_54_4 rfl ?_
  refine k_callV hK (as := [.ref 4, .int _, .int _]) (st' := [.int _]) ti_54_5 ow_54 iv_3_156 mc_54 ms_54 rfl rfl (by omega) (Nat.le_of_ble_eq_true rfl) (Nat.le_of_ble_eq_true rfl) (Nat.le_of_ble_eq_true rfl) (Nat.le_of_ble_eq_true rfl) (by omega) rfl ?_
  refine sp_X3_scoreFor_f (by omega) c a hC hT (by omega) (by omega) ?_
  refine k_bipush hK ti_54_8 kB_20 ?_
  refine k_idiv hK ti_54_10 (by decide) rfl ?_
  refine k_iadd hK (z := (prc s l c a)) ti_54_11 rfl ?_
  refine k_ireturn hK ti_54_12 rk_54 mc_54 ms_54 (Nat.le_of_ble_eq_true rfl) (Nat.le_of_ble_eq_true rfl) ?_
  exact h

set_option maxRecDepth 100000 in
set_option maxHeartbeats 4000000 in
theorem sp_X3_bestFit_f {X : dp_X} {d n : Nat} {M : dp_M} {o : dp_O} {Q : dp_Q} (h65 : 65 ≤ n) {s : GSt} {l : LSt} (c : Nat) (hC : CG M s) (hT : CLf M l) (hc : c < g_nC s) (h : Q (.inl (some (.int (oI (fA s l c 0))))) M o) : dp_run X (d + 3 + 1) 51 [.ref 0, .ref 4, .int (nI c)] n M o Q := by
  apply k_run
  intro K hK
  rw [mL_51]
  show K 0 [some (.ref 0), some (.ref 4), some (.int (nI c)), none, none, none, none] [] n 0 0 M o
  have hA16 := hC.w.1
  have hC6 := hC.w.2.1
  rw [← bf_fA] at h
  refine k_iconst hK ti_51_0 kI_m1 ?_
  refine k_istore_n hK (L' := [some (.ref 0), some (.ref 4), some (.int _), some (.int _), none, none, none]) ti_51_1 rfl ?_
  refine k_iconst hK ti_51_2 kI_m1 ?_
  refine k_istore hK (L' := [some (.ref 0), some (.ref 4), some (.int _), some (.int _), some (.int _), none, none]) ti_51_3 rfl ?_
  refine k_iconst hK ti_51_5 kI_0 ?_
  refine k_istore hK (L' := [some (.ref 0), some (.ref 4), some (.int _), some (.int _), some (.int _), some (.int _), none]) ti_51_6 rfl ?_
  have loop : ∀ (f i : Nat) (u : Option Value), i ≤ (g_nA s) → (g_nA s) - i < f → K 8 [some (.ref 0), some (.ref 4), some (.int (nI c)), some (.int (oI (bf s l c i).1)), some (.int ((bf s l c i).2)), some (.int (nI i)), u] [] n 0 0 M o := by
    intro f
    induction f with
    | zero => intro i u h1 h2; omega
    | succ f ih =>
      intro i u h1 h2
      refine k_iload hK ti_51_8 rfl ?_
      refine k_aload_n hK ti_51_10 rfl ?_
      refine k_get hK ti_51_11 ow_51 fd_3_10 (by omega) rfl rfl ?_
      refine k_geti hK (nI (g_nA s)) ti_51_14 ow_51 fd_3_50 (by omega) rfl rfl hC.nA ?_
      refine kn_ge hK (by omega) (by omega) ti_51_17 jt_17_46 (fun c_17 => ?_) (fun c_17 => ?_)
      · refine k_aload_n hK ti_51_20 rfl ?_
        refine k_aload_n hK ti_51_21 rfl ?_
        refine k_iload_n hK ti_51_22 rfl ?_
        refine k_iload hK ti_51_23 rfl ?_
        refine k_callV hK (as := [.ref 4, .int _, .int _]) (st' := []) ti_51_25 ow_51 iv_3_156 mc_51 ms_51 rfl rfl (by omega) (Nat.le_of_ble_eq_true rfl) (Nat.le_of_ble_eq_true rfl) (Nat.le_of_ble_eq_true rfl) (Nat.le_of_ble_eq_true rfl) (by omega) rfl ?_
        refine sp_X3_scoreFor_f (by omega) c i hC hT (by omega) (by omega) ?_
        refine k_istore hK (L' := [some (.ref 0), some (.ref 4), some (.int _), some (.int _), some (.int _), some (.int _), some (.int _)]) ti_51_28 rfl ?_
        refine k_iload hK ti_51_30 rfl ?_
        refine k_iload hK ti_51_32 rfl ?_
        refine k_icmp_le hK ti_51_34 jt_34_23 (fun c_34 => ?_) (fun c_34 => ?_)
        · refine k_aload_n hK ti_51_37 rfl ?_
          refine k_aload_n hK ti_51_38 rfl ?_
          refine k_iload_n hK ti_51_39 rfl ?_
          refine k_iload hK ti_51_40 rfl ?_
          refine k_iload hK ti_51_42 rfl ?_
          refine k_callV hK (as := [.ref 4, .int _, .int _, .int _]) (st' := []) ti_51_44 ow_51 iv_3_251 mc_51 ms_51 rfl rfl (by omega) (Nat.le_of_ble_eq_true rfl) (Nat.le_of_ble_eq_true rfl) (Nat.le_of_ble_eq_true rfl) (Nat.le_of_ble_eq_true rfl) (by omega) rfl ?_
          refine sp_X3_isFit_f (by omega) c i ((sc s l c i)) hC hT (by omega) (by omega) (k_aftv (bl (fit s l c i)) (congrArg bl (Bool.and_comm _ _)) ?_)
          refine kb_eq hK ti_51_47 jt_47_10 (fun c_47 => ?_) (fun c_47 => ?_)
          · have e : bf s l c (i + 1) = bf s l c i := by rw [bf, if_neg (fun z => by simp [c_47] at z)]
            · refine k_eq (L' := [some (.ref 0), some (.ref 4), some (.int (nI c)), some (.int (oI (bf s l c (i + 1)).1)), some (.int ((bf s l c (i + 1)).2)), some (.int (nI i)), some (.int (sc s l c i))]) ?_ (by simp only [e] <;> rfl) rfl rfl
              refine k_iinc hK (L' := [some (.ref 0), some (.ref 4), some (.int _), some (.int _), some (.int _), some (.int (nI (i + 1))), some (.int _)]) ti_51_57 rfl (by rw [kI_1, nI_add]) rfl ?_
              refine k_goto hK ti_51_60 jt_60_m52 ?_
              exact ih (i + 1) _ (by omega) (by omega) 
          · have e : bf s l c (i + 1) = (some i, sc s l c i) := by rw [bf, if_pos ⟨c_34, c_47⟩]
            refine k_iload hK ti_51_50 rfl ?_
            refine k_istore hK (L' := [some (.ref 0), some (.ref 4), some (.int _), some (.int _), some (.int _), some (.int _), some (.int _)]) ti_51_52 rfl ?_
            refine k_iload hK ti_51_54 rfl ?_
            refine k_istore_n hK (L' := [some (.ref 0), some (.ref 4), some (.int _), some (.int _), some (.int _), some (.int _), some (.int _)]) ti_51_56 rfl ?_
            · refine k_eq (L' := [some (.ref 0), some (.ref 4), some (.int (nI c)), some (.int (oI (bf s l c (i + 1)).1)), some (.int ((bf s l c (i + 1)).2)), some (.int (nI i)), some (.int (sc s l c i))]) ?_ (by simp only [e] <;> rfl) rfl rfl
              refine k_iinc hK (L' := [some (.ref 0), some (.ref 4), some (.int _), some (.int _), some (.int _), some (.int (nI (i + 1))), some (.int _)]) ti_51_57 rfl (by rw [kI_1, nI_add]) rfl ?_
              refine k_goto hK ti_51_60 jt_60_m52 ?_
              exact ih (i + 1) _ (by omega) (by omega) 
        · have e : bf s l c (i + 1) = bf s l c i := by rw [bf, if_neg (fun z => c_34 z.1)]
          · refine k_eq (L' := [some (.ref 0), some (.ref 4), some (.int (nI c)), some (.int (oI (bf s l c (i + 1)).1)), some (.int ((bf s l c (i + 1)).2)), some (.int (nI i)), some (.int (sc s l c i))]) ?_ (by simp only [e] <;> rfl) rfl rfl
            refine k_iinc hK (L' := [some (.ref 0), some (.ref 4), some (.int _), some (.int _), some (.int _), some (.int (nI (i + 1))), some (.int _)]) ti_51_57 rfl (by rw [kI_1, nI_add]) rfl ?_
            refine k_goto hK ti_51_60 jt_60_m52 ?_
            exact ih (i + 1) _ (by omega) (by omega) 
      · obtain rfl : i = (g_nA s) := by omega
        refine k_iload_n hK ti_51_63 rfl ?_
        refine k_ireturn hK ti_51_64 rk_51 mc_51 ms_51 (Nat.le_of_ble_eq_true rfl) (Nat.le_of_ble_eq_true rfl) ?_
        exact h
  exact loop ((g_nA s) - 0 + 1) 0 _ (by omega) (by omega) 


set_option maxRecDepth 100000 in
set_option maxHeartbeats 4000000 in
theorem sp_X3_fitArticles {X : dp_X} {d n : Nat} {M : dp_M} {o : dp_O} {Q : dp_Q} (h65 : 65 ≤ n) {s : GSt} {l : LSt} (c : Nat) (hC : CG M s) (hN : CLn M l) (hc : c < g_nC s) (h : Q (.inl (some (.int (nI (fts s l c))))) M o) : dp_run X (d + 3 + 1) 50 [.ref 0, .int (nI c)] n M o Q := by
  apply k_run
  intro K hK
  rw [mL_50]
  show K 0 [some (.ref 0), some (.int (nI c)), none, none, none] [] n 0 0 M o
  have hA16 := hC.w.1
  have hC6 := hC.w.2.1
  refine k_iconst hK ti_50_0 kI_0 ?_
  refine k_istore_n hK (L' := [some (.ref 0), some (.int _), some (.int _), none, none]) ti_50_1 rfl ?_
  refine k_iconst hK ti_50_2 kI_0 ?_
  refine k_istore_n hK (L' := [some (.ref 0), some (.int _), some (.int _), some (.int _), none]) ti_50_3 rfl ?_
  have loop : ∀ (f i : Nat) (u : Option Value), i ≤ (g_nA s) → (g_nA s) - i < f → K 4 [some (.ref 0), some (.int (nI c)), some (.int (nI (cnt i (fit s l c)))), some (.int (nI i)), u] [] n 0 0 M o := by
    intro f
    induction f with
    | zero => intro i u h1 h2; omega
    | succ f ih =>
      intro i u h1 h2
      refine k_iload_n hK ti_50_4 rfl ?_
      refine k_aload_n hK ti_50_5 rfl ?_
      refine k_get hK ti_50_6 ow_50 fd_3_10 (by omega) rfl rfl ?_
      refine k_geti hK (nI (g_nA s)) ti_50_9 ow_50 fd_3_50 (by omega) rfl rfl hC.nA ?_
      refine kn_ge hK (by omega) (by omega) ti_50_12 jt_12_39 (fun c_12 => ?_) (fun c_12 => ?_)
      · refine k_aload_n hK ti_50_15 rfl ?_
        refine k_aload_n hK ti_50_16 rfl ?_
        refine k_get hK ti_50_17 ow_50 fd_3_26 (by omega) rfl rfl ?_
        refine k_iload_n hK ti_50_20 rfl ?_
        refine k_iload_n hK ti_50_21 rfl ?_
        refine k_callV hK (as := [.ref 3, .int _, .int _]) (st' := []) ti_50_22 ow_50 iv_3_156 mc_50 ms_50 rfl rfl (by omega) (Nat.le_of_ble_eq_true rfl) (Nat.le_of_ble_eq_true rfl) (Nat.le_of_ble_eq_true rfl) (Nat.le_of_ble_eq_true rfl) (by omega) rfl ?_
        refine sp_X3_scoreFor_n (by omega) c i hC hN (by omega) (by omega) ?_
        refine k_istore hK (L' := [some (.ref 0), some (.int _), some (.int _), some (.int _), some (.int _)]) ti_50_25 rfl ?_
        refine k_aload_n hK ti_50_27 rfl ?_
        refine k_aload_n hK ti_50_28 rfl ?_
        refine k_get hK ti_50_29 ow_50 fd_3_26 (by omega) rfl rfl ?_
        refine k_iload_n hK ti_50_32 rfl ?_
        refine k_iload_n hK ti_50_33 rfl ?_
        refine k_iload hK ti_50_34 rfl ?_
        refine k_callV hK (as := [.ref 3, .int _, .int _, .int _]) (st' := []) ti_50_36 ow_50 iv_3_251 mc_50 ms_50 rfl rfl (by omega) (Nat.le_of_ble_eq_true rfl) (Nat.le_of_ble_eq_true rfl) (Nat.le_of_ble_eq_true rfl) (Nat.le_of_ble_eq_true rfl) (by omega) rfl ?_
        refine sp_X3_isFit_n (by omega) c i ((sc s l c i)) hC hN (by omega) (by omega) (k_aftv (bl (fit s l c i)) (congrArg bl (Bool.and_comm _ _)) ?_)
        refine kb_eq hK ti_50_39 jt_39_6 (fun c_39 => ?_) (fun c_39 => ?_)
        · · rw [← (cnt_f c_39 : cnt (i + 1) (fit s l c) = cnt i (fit s l c))]
            refine k_iinc hK (L' := [some (.ref 0), some (.int _), some (.int _), some (.int (nI (i + 1))), some (.int _)]) ti_50_45 rfl (by rw [kI_1, nI_add]) rfl ?_
            refine k_goto hK ti_50_48 jt_48_m44 ?_
            exact ih (i + 1) _ (by omega) (by omega) 
        · refine k_iinc hK (L' := [some (.ref 0), some (.int _), some (.int (nI (cnt (i + 1) (fit s l c)))), some (.int _), some (.int _)]) ti_50_42 rfl (by rw [cnt_t c_39, kI_1, nI_add]) rfl ?_
          refine k_iinc hK (L' := [some (.ref 0), some (.int _), some (.int _), some (.int (nI (i + 1))), some (.int _)]) ti_50_45 rfl (by rw [kI_1, nI_add]) rfl ?_
          refine k_goto hK ti_50_48 jt_48_m44 ?_
          exact ih (i + 1) _ (by omega) (by omega) 
      · obtain rfl : i = (g_nA s) := by omega
        refine k_iload_n hK ti_50_51 rfl ?_
        refine k_ireturn hK ti_50_52 rk_50 mc_50 ms_50 (Nat.le_of_ble_eq_true rfl) (Nat.le_of_ble_eq_true rfl) ?_
        exact h
  exact loop ((g_nA s) - 0 + 1) 0 _ (by omega) (by omega) 
