/-! The reference: what is told. (written by wip/whole/ref4.py) -/
set_option maxRecDepth 100000 in
set_option maxHeartbeats 4000000 in
theorem sp_X4_stemsOf {X : dp_X} {d n : Nat} {M : dp_M} {o : Int64} {Q : dp_Q} (h65 : 65 ≤ n) {s : GSt} {l : LSt} (a : Nat) (hG : RG M s) (hL : RLt M l) (ha : a < 16) (h : Q (.inl (some (.int (nI (stA s a))))) M o) : dp_run X (d + 2 + 1) 100 [.ref 22, .int (nI a)] n M o Q := by
  apply k_run
  intro K hK
  rw [mL_100]
  show K 0 [some (.ref 22), some (.int (nI a)), none, none] [] n 0 0 M o
  have hA16 := hG.1.1
  have hC6 := hG.1.2.1
  refine k_iconst hK ti_100_0 kI_0 ?_
  refine k_istore_n hK (L' := [some (.ref 22), some (.int _), some (.int _), none]) ti_100_1 rfl ?_
  refine k_iconst hK ti_100_2 kI_0 ?_
  refine k_istore_n hK (L' := [some (.ref 22), some (.int _), some (.int _), some (.int _)]) ti_100_3 rfl ?_
  have loop : ∀ (f i : Nat), i ≤ 20 → 20 - i < f → K 4 [some (.ref 22), some (.int (nI a)), some (.int (nI (cnt i (fun x => decide (0 < tm s a x))))), some (.int (nI i))] [] n 0 0 M o := by
    intro f
    induction f with
    | zero => intro i h1 h2; omega
    | succ f ih =>
      intro i h1 h2
      have hcl := cnt_le (fun x => decide (0 < tm s a x)) i
      refine k_iload_n hK ti_100_4 rfl ?_
      refine k_bipush hK ti_100_5 kB_20 ?_
      refine kn_ge hK (by omega) (by omega) ti_100_7 jt_7_26 (fun c_7 => ?_) (fun c_7 => ?_)
      · have htm := tm_le hG.1 (a := a) (by omega) i
        refine k_iload_n hK ti_100_10 rfl ?_
        refine k_aload_n hK ti_100_11 rfl ?_
        refine k_iload_n hK ti_100_12 rfl ?_
        refine k_iload_n hK ti_100_13 rfl ?_
        refine k_callV hK (as := [.int _, .int _]) (st' := [.int _]) ti_100_14 ow_100 iv_4_75 mc_100 ms_100 rfl rfl (by omega) (Nat.le_of_ble_eq_true rfl) (Nat.le_of_ble_eq_true rfl) (Nat.le_of_ble_eq_true rfl) (Nat.le_of_ble_eq_true rfl) (by omega) rfl ?_
        refine sp_X4_times (by omega) a i hG (by omega) (by omega) ?_
        refine kz_le hK (by omega) ti_100_17 jt_17_7 (fun c_17 => ?_) (fun c_17 => ?_)
        · refine k_iconst hK ti_100_20 kI_1 ?_
          refine k_goto hK ti_100_21 jt_21_4 ?_
          refine k_iadd hK (z := (nI (cnt (i + 1) (fun x => decide (0 < tm s a x))))) ti_100_25 (by rw [cnt_t (by simp [c_17]), nI_add]) ?_
          refine k_istore_n hK (L' := [some (.ref 22), some (.int _), some (.int _), some (.int _)]) ti_100_26 rfl ?_
          refine k_iinc hK (L' := [some (.ref 22), some (.int _), some (.int _), some (.int (nI (i + 1)))]) ti_100_27 rfl (by rw [kI_1, nI_add]) rfl ?_
          refine k_goto hK ti_100_30 jt_30_m26 ?_
          exact ih (i + 1) (by omega) (by omega) 
        · refine k_iconst hK ti_100_24 kI_0 ?_
          refine k_iadd hK (z := (nI (cnt (i + 1) (fun x => decide (0 < tm s a x))))) ti_100_25 (by rw [cnt_f (by simp [c_17]), nI_add, Nat.add_zero]) ?_
          refine k_istore_n hK (L' := [some (.ref 22), some (.int _), some (.int _), some (.int _)]) ti_100_26 rfl ?_
          refine k_iinc hK (L' := [some (.ref 22), some (.int _), some (.int _), some (.int (nI (i + 1)))]) ti_100_27 rfl (by rw [kI_1, nI_add]) rfl ?_
          refine k_goto hK ti_100_30 jt_30_m26 ?_
          exact ih (i + 1) (by omega) (by omega) 
      · obtain rfl : i = 20 := by omega
        refine k_iload_n hK ti_100_33 rfl ?_
        refine k_ireturn hK ti_100_34 rk_100 mc_100 ms_100 (Nat.le_of_ble_eq_true rfl) (Nat.le_of_ble_eq_true rfl) ?_
        exact h
  exact loop (20 - 0 + 1) 0 (by omega) (by omega) 

set_option maxRecDepth 100000 in
set_option maxHeartbeats 4000000 in
theorem sp_X4_sentTo {X : dp_X} {d n : Nat} {M : dp_M} {o : Int64} {Q : dp_Q} (h65 : 65 ≤ n) {s : GSt} {l : LSt} (a : Nat) (hG : RG M s) (hL : RLt M l) (ha : a < 16) (h : Q (.inl (some (.int (nI (rcv s l a))))) M o) : dp_run X (d + 1 + 1) 101 [.ref 22, .int (nI a)] n M o Q := by
  apply k_run
  intro K hK
  rw [mL_101]
  show K 0 [some (.ref 22), some (.int (nI a)), none, none] [] n 0 0 M o
  have hA16 := hG.1.1
  have hC6 := hG.1.2.1
  refine k_iconst hK ti_101_0 kI_0 ?_
  refine k_istore_n hK (L' := [some (.ref 22), some (.int _), some (.int _), none]) ti_101_1 rfl ?_
  refine k_iconst hK ti_101_2 kI_0 ?_
  refine k_istore_n hK (L' := [some (.ref 22), some (.int _), some (.int _), some (.int _)]) ti_101_3 rfl ?_
  have loop : ∀ (f i : Nat), i ≤ g_nC s → g_nC s - i < f → K 4 [some (.ref 22), some (.int (nI a)), some (.int (nI (cnt i (fun c => bit (l_sent l c) a)))), some (.int (nI i))] [] n 0 0 M o := by
    intro f
    induction f with
    | zero => intro i h1 h2; omega
    | succ f ih =>
      intro i h1 h2
      have hcl := cnt_le (fun c => bit (l_sent l c) a) i
      refine k_iload_n hK ti_101_4 rfl ?_
      refine k_aload_n hK ti_101_5 rfl ?_
      refine k_geti hK (nI (g_nC s)) ti_101_6 ow_101 fd_4_30 (by omega) rfl rfl hG.2.2.1 ?_
      refine kn_ge hK (by omega) (by omega) ti_101_9 jt_9_22 (fun c_9 => ?_) (fun c_9 => ?_)
      · have hs16 := hL.1 i (by omega)
        refine k_iload_n hK ti_101_12 rfl ?_
        refine k_aload_n hK ti_101_13 rfl ?_
        refine k_iload_n hK ti_101_14 rfl ?_
        refine k_iconst hK ti_101_15 kI_4 ?_
        refine k_callV hK (as := [.int _, .int _]) (st' := [.int _]) ti_101_16 ow_101 iv_4_61 mc_101 ms_101 rfl rfl (by omega) (Nat.le_of_ble_eq_true rfl) (Nat.le_of_ble_eq_true rfl) (Nat.le_of_ble_eq_true rfl) (Nat.le_of_ble_eq_true rfl) (by omega) rfl ?_
        refine sp_X4_cl (by omega) i 4 (by omega) (by omega) (k_aftv ((nI (l_sent l i))) ((hL.2.2.1 i (by omega)).2.2) ?_)
        refine k_iload_n hK ti_101_19 rfl ?_
        refine k_ishr hK ti_101_20 rfl ?_
        refine k_iconst hK ti_101_21 kI_1 ?_
        refine k_iand hK (z := (bl (bit (l_sent l i) a))) ti_101_22 (nI_bit (by omega) (by omega)) ?_
        refine k_iadd hK (z := (nI (cnt (i + 1) (fun c => bit (l_sent l c) a)))) ti_101_23 (nI_cntb (fun c => bit (l_sent l c) a) i) ?_
        refine k_istore_n hK (L' := [some (.ref 22), some (.int _), some (.int _), some (.int _)]) ti_101_24 rfl ?_
        refine k_iinc hK (L' := [some (.ref 22), some (.int _), some (.int _), some (.int (nI (i + 1)))]) ti_101_25 rfl (by rw [kI_1, nI_add]) rfl ?_
        refine k_goto hK ti_101_28 jt_28_m24 ?_
        exact ih (i + 1) (by omega) (by omega) 
      · obtain rfl : i = g_nC s := by omega
        refine k_iload_n hK ti_101_31 rfl ?_
        refine k_ireturn hK ti_101_32 rk_101 mc_101 ms_101 (Nat.le_of_ble_eq_true rfl) (Nat.le_of_ble_eq_true rfl) ?_
        exact h
  exact loop (g_nC s - 0 + 1) 0 (by omega) (by omega) 

set_option maxRecDepth 100000 in
set_option maxHeartbeats 4000000 in
theorem sp_X4_sent {X : dp_X} {d n : Nat} {M : dp_M} {o : Int64} {Q : dp_Q} (h65 : 65 ≤ n) {s : GSt} {l : LSt} (c : Nat) (hG : RG M s) (hL : RLt M l) (hc : c < 6) (h : Q (.inl (some (.int (nI (snt s l c))))) M o) : dp_run X (d + 1 + 1) 105 [.ref 22, .int (nI c)] n M o Q := by
  apply k_run
  intro K hK
  rw [mL_105]
  show K 0 [some (.ref 22), some (.int (nI c)), none, none] [] n 0 0 M o
  have hA16 := hG.1.1
  have hC6 := hG.1.2.1
  have hs16 := hL.1 c (by omega)
  refine k_iconst hK ti_105_0 kI_0 ?_
  refine k_istore_n hK (L' := [some (.ref 22), some (.int _), some (.int _), none]) ti_105_1 rfl ?_
  refine k_iconst hK ti_105_2 kI_0 ?_
  refine k_istore_n hK (L' := [some (.ref 22), some (.int _), some (.int _), some (.int _)]) ti_105_3 rfl ?_
  have loop : ∀ (f i : Nat), i ≤ g_nA s → g_nA s - i < f → K 4 [some (.ref 22), some (.int (nI c)), some (.int (nI (cnt i (fun a => bit (l_sent l c) a)))), some (.int (nI i))] [] n 0 0 M o := by
    intro f
    induction f with
    | zero => intro i h1 h2; omega
    | succ f ih =>
      intro i h1 h2
      have hcl := cnt_le (fun a => bit (l_sent l c) a) i
      refine k_iload_n hK ti_105_4 rfl ?_
      refine k_aload_n hK ti_105_5 rfl ?_
      refine k_geti hK (nI (g_nA s)) ti_105_6 ow_105 fd_4_23 (by omega) rfl rfl hG.2.1 ?_
      refine kn_ge hK (by omega) (by omega) ti_105_9 jt_9_22 (fun c_9 => ?_) (fun c_9 => ?_)
      · refine k_iload_n hK ti_105_12 rfl ?_
        refine k_aload_n hK ti_105_13 rfl ?_
        refine k_iload_n hK ti_105_14 rfl ?_
        refine k_iconst hK ti_105_15 kI_4 ?_
        refine k_callV hK (as := [.int _, .int _]) (st' := [.int _]) ti_105_16 ow_105 iv_4_61 mc_105 ms_105 rfl rfl (by omega) (Nat.le_of_ble_eq_true rfl) (Nat.le_of_ble_eq_true rfl) (Nat.le_of_ble_eq_true rfl) (Nat.le_of_ble_eq_true rfl) (by omega) rfl ?_
        refine sp_X4_cl (by omega) c 4 (by omega) (by omega) (k_aftv ((nI (l_sent l c))) ((hL.2.2.1 c (by omega)).2.2) ?_)
        refine k_iload_n hK ti_105_19 rfl ?_
        refine k_ishr hK ti_105_20 rfl ?_
        refine k_iconst hK ti_105_21 kI_1 ?_
        refine k_iand hK (z := (bl (bit (l_sent l c) i))) ti_105_22 (nI_bit (by omega) (by omega)) ?_
        refine k_iadd hK (z := (nI (cnt (i + 1) (fun a => bit (l_sent l c) a)))) ti_105_23 (nI_cntb (fun a => bit (l_sent l c) a) i) ?_
        refine k_istore_n hK (L' := [some (.ref 22), some (.int _), some (.int _), some (.int _)]) ti_105_24 rfl ?_
        refine k_iinc hK (L' := [some (.ref 22), some (.int _), some (.int _), some (.int (nI (i + 1)))]) ti_105_25 rfl (by rw [kI_1, nI_add]) rfl ?_
        refine k_goto hK ti_105_28 jt_28_m24 ?_
        exact ih (i + 1) (by omega) (by omega) 
      · obtain rfl : i = g_nA s := by omega
        refine k_iload_n hK ti_105_31 rfl ?_
        refine k_ireturn hK ti_105_32 rk_105 mc_105 ms_105 (Nat.le_of_ble_eq_true rfl) (Nat.le_of_ble_eq_true rfl) ?_
        exact h
  exact loop (g_nA s - 0 + 1) 0 (by omega) (by omega) 

set_option maxRecDepth 100000 in
set_option maxHeartbeats 4000000 in
theorem sp_X4_articleTold {X : dp_X} {d n : Nat} {M : dp_M} {o : Int64} {Q : dp_Q} (h65 : 65 ≤ n) {s : GSt} {l : LSt} (a w : Nat) (hG : RG M s) (hL : RLt M l) (ha : a < 16) (hw : w < 4) (h : Q (.inl (some (.int (aT s l a w)))) M o) : dp_run X (d + 3 + 1) 102 [.ref 22, .int (nI a), .int (nI w)] n M o Q := by
  apply k_run
  intro K hK
  rw [mL_102]
  show K 0 [some (.ref 22), some (.int (nI a)), some (.int (nI w))] [] n 0 0 M o
  have hA16 := hG.1.1
  have hC6 := hG.1.2.1
  refine k_iload_n hK ti_102_0 rfl ?_
  refine kz_ne hK (by omega) ti_102_1 jt_1_12 (fun c_1 => ?_) (fun c_1 => ?_)
  · rw [show aT s l a w = nI (g_len s a) from if_pos c_1] at h
    refine k_aload_n hK ti_102_4 rfl ?_
    refine k_iload_n hK ti_102_5 rfl ?_
    refine k_iconst hK ti_102_6 kI_0 ?_
    refine k_callV hK (as := [.int _, .int _]) (st' := []) ti_102_7 ow_102 iv_4_47 mc_102 ms_102 rfl rfl (by omega) (Nat.le_of_ble_eq_true rfl) (Nat.le_of_ble_eq_true rfl) (Nat.le_of_ble_eq_true rfl) (Nat.le_of_ble_eq_true rfl) (by omega) rfl ?_
    refine sp_X4_ar (by omega) a 0 (by omega) (by omega) (k_aftv ((nI (g_len s a))) (hG.2.2.2.2.1 a (by omega)) ?_)
    refine k_goto hK ti_102_10 jt_10_35 ?_
    refine k_ireturn hK ti_102_45 rk_102 mc_102 ms_102 (Nat.le_of_ble_eq_true rfl) (Nat.le_of_ble_eq_true rfl) ?_
    exact h
  · refine k_iload_n hK ti_102_13 rfl ?_
    refine k_iconst hK ti_102_14 kI_1 ?_
    refine kn_ne hK (by omega) (by omega) ti_102_15 jt_15_11 (fun c_15 => ?_) (fun c_15 => ?_)
    · rw [show aT s l a w = nI (stA s a) from (if_neg c_1).trans (if_pos c_15)] at h
      refine k_aload_n hK ti_102_18 rfl ?_
      refine k_iload_n hK ti_102_19 rfl ?_
      refine k_callV hK (as := [.int _]) (st' := []) ti_102_20 ow_102 iv_4_110 mc_102 ms_102 rfl rfl (by omega) (Nat.le_of_ble_eq_true rfl) (Nat.le_of_ble_eq_true rfl) (Nat.le_of_ble_eq_true rfl) (Nat.le_of_ble_eq_true rfl) (by omega) rfl ?_
      refine sp_X4_stemsOf (by omega) a hG hL (by omega) ?_
      refine k_goto hK ti_102_23 jt_23_22 ?_
      refine k_ireturn hK ti_102_45 rk_102 mc_102 ms_102 (Nat.le_of_ble_eq_true rfl) (Nat.le_of_ble_eq_true rfl) ?_
      exact h
    · refine k_iload_n hK ti_102_26 rfl ?_
      refine k_iconst hK ti_102_27 kI_2 ?_
      refine kn_ne hK (by omega) (by omega) ti_102_28 jt_28_12 (fun c_28 => ?_) (fun c_28 => ?_)
      · rw [show aT s l a w = l_age l a from (if_neg c_1).trans ((if_neg c_15).trans (if_pos c_28))] at h
        refine k_aload_n hK ti_102_31 rfl ?_
        refine k_iload_n hK ti_102_32 rfl ?_
        refine k_iconst hK ti_102_33 kI_1 ?_
        refine k_callV hK (as := [.int _, .int _]) (st' := []) ti_102_34 ow_102 iv_4_47 mc_102 ms_102 rfl rfl (by omega) (Nat.le_of_ble_eq_true rfl) (Nat.le_of_ble_eq_true rfl) (Nat.le_of_ble_eq_true rfl) (Nat.le_of_ble_eq_true rfl) (by omega) rfl ?_
        refine sp_X4_ar (by omega) a 1 (by omega) (by omega) (k_aftv ((l_age l a)) (hL.2.1 a (by omega)) ?_)
        refine k_goto hK ti_102_37 jt_37_8 ?_
        refine k_ireturn hK ti_102_45 rk_102 mc_102 ms_102 (Nat.le_of_ble_eq_true rfl) (Nat.le_of_ble_eq_true rfl) ?_
        exact h
      · rw [show aT s l a w = nI (rcv s l a) from (if_neg c_1).trans ((if_neg c_15).trans (if_neg c_28))] at h
        refine k_aload_n hK ti_102_40 rfl ?_
        refine k_iload_n hK ti_102_41 rfl ?_
        refine k_callV hK (as := [.int _]) (st' := []) ti_102_42 ow_102 iv_4_113 mc_102 ms_102 rfl rfl (by omega) (Nat.le_of_ble_eq_true rfl) (Nat.le_of_ble_eq_true rfl) (Nat.le_of_ble_eq_true rfl) (Nat.le_of_ble_eq_true rfl) (by omega) rfl ?_
        refine sp_X4_sentTo (by omega) a hG hL (by omega) ?_
        refine k_ireturn hK ti_102_45 rk_102 mc_102 ms_102 (Nat.le_of_ble_eq_true rfl) (Nat.le_of_ble_eq_true rfl) ?_
        exact h

set_option maxRecDepth 100000 in
set_option maxHeartbeats 4000000 in
theorem sp_X4_clientTold {X : dp_X} {d n : Nat} {M : dp_M} {o : Int64} {Q : dp_Q} (h65 : 65 ≤ n) {s : GSt} {l : LSt} (c w : Nat) (hG : RG M s) (hL : RLt M l) (hc : c < g_nC s) (hw : w < 6) (h : Q (.inl (some (.int (cT s l c w)))) M o) : dp_run X (d + 6 + 1) 106 [.ref 22, .int (nI c), .int (nI w)] n M o Q := by
  apply k_run
  intro K hK
  rw [mL_106]
  show K 0 [some (.ref 22), some (.int (nI c)), some (.int (nI w))] [] n 0 0 M o
  have hA16 := hG.1.1
  have hC6 := hG.1.2.1
  refine k_iload_n hK ti_106_0 rfl ?_
  have hw7 : w = 0 ∨ w = 1 ∨ w = 2 ∨ w = 3 ∨ w = 4 ∨ w = 5 := by omega
  rcases hw7 with rfl | rfl | rfl | rfl | rfl | rfl
  · refine k_swl hK (off := 35) ti_106_1 (by decide) rfl (by decide) jt_1_35 ?_
    refine k_aload_n hK ti_106_36 rfl ?_
    refine k_iload_n hK ti_106_37 rfl ?_
    refine k_iconst hK ti_106_38 kI_0 ?_
    refine k_callV hK (as := [.int _, .int _]) (st' := []) ti_106_39 ow_106 iv_4_61 mc_106 ms_106 rfl rfl (by omega) (Nat.le_of_ble_eq_true rfl) (Nat.le_of_ble_eq_true rfl) (Nat.le_of_ble_eq_true rfl) (Nat.le_of_ble_eq_true rfl) (by omega) rfl ?_
    refine sp_X4_cl (by omega) c 0 (by omega) (by omega) (k_aftv ((l_coin l c)) ((hL.2.2.1 c (by omega)).1) ?_)
    refine k_ireturn hK ti_106_42 rk_106 mc_106 ms_106 (Nat.le_of_ble_eq_true rfl) (Nat.le_of_ble_eq_true rfl) ?_
    exact h
  · refine k_swl hK (off := 42) ti_106_1 (by decide) rfl (by decide) jt_1_42 ?_
    refine k_aload_n hK ti_106_43 rfl ?_
    refine k_iload_n hK ti_106_44 rfl ?_
    refine k_iconst hK ti_106_45 kI_1 ?_
    refine k_callV hK (as := [.int _, .int _]) (st' := []) ti_106_46 ow_106 iv_4_61 mc_106 ms_106 rfl rfl (by omega) (Nat.le_of_ble_eq_true rfl) (Nat.le_of_ble_eq_true rfl) (Nat.le_of_ble_eq_true rfl) (Nat.le_of_ble_eq_true rfl) (by omega) rfl ?_
    refine sp_X4_cl (by omega) c 1 (by omega) (by omega) (k_aftv ((nI (g_many s c))) (hG.2.2.2.2.2.2.1 c (by omega)) ?_)
    refine k_ireturn hK ti_106_49 rk_106 mc_106 ms_106 (Nat.le_of_ble_eq_true rfl) (Nat.le_of_ble_eq_true rfl) ?_
    exact h
  · refine k_swl hK (off := 49) ti_106_1 (by decide) rfl (by decide) jt_1_49 ?_
    refine k_aload_n hK ti_106_50 rfl ?_
    refine k_iload_n hK ti_106_51 rfl ?_
    refine k_iconst hK ti_106_52 kI_2 ?_
    refine k_callV hK (as := [.int _, .int _]) (st' := []) ti_106_53 ow_106 iv_4_61 mc_106 ms_106 rfl rfl (by omega) (Nat.le_of_ble_eq_true rfl) (Nat.le_of_ble_eq_true rfl) (Nat.le_of_ble_eq_true rfl) (Nat.le_of_ble_eq_true rfl) (by omega) rfl ?_
    refine sp_X4_cl (by omega) c 2 (by omega) (by omega) (k_aftv ((g_bar s c)) (hG.2.2.2.2.2.2.2.2 c (by omega)) ?_)
    refine k_ireturn hK ti_106_56 rk_106 mc_106 ms_106 (Nat.le_of_ble_eq_true rfl) (Nat.le_of_ble_eq_true rfl) ?_
    exact h
  · refine k_swl hK (off := 56) ti_106_1 (by decide) rfl (by decide) jt_1_56 ?_
    refine k_aload_n hK ti_106_57 rfl ?_
    refine k_iload_n hK ti_106_58 rfl ?_
    refine k_callV hK (as := [.int _]) (st' := []) ti_106_59 ow_106 iv_4_119 mc_106 ms_106 rfl rfl (by omega) (Nat.le_of_ble_eq_true rfl) (Nat.le_of_ble_eq_true rfl) (Nat.le_of_ble_eq_true rfl) (Nat.le_of_ble_eq_true rfl) (by omega) rfl ?_
    refine sp_X4_sent (by omega) c hG hL (by omega) ?_
    refine k_ireturn hK ti_106_62 rk_106 mc_106 ms_106 (Nat.le_of_ble_eq_true rfl) (Nat.le_of_ble_eq_true rfl) ?_
    exact h
  · refine k_swl hK (off := 62) ti_106_1 (by decide) rfl (by decide) jt_1_62 ?_
    refine k_aload_n hK ti_106_63 rfl ?_
    refine k_iload_n hK ti_106_64 rfl ?_
    refine k_iconst hK ti_106_65 kI_3 ?_
    refine k_callV hK (as := [.int _, .int _]) (st' := []) ti_106_66 ow_106 iv_4_61 mc_106 ms_106 rfl rfl (by omega) (Nat.le_of_ble_eq_true rfl) (Nat.le_of_ble_eq_true rfl) (Nat.le_of_ble_eq_true rfl) (Nat.le_of_ble_eq_true rfl) (by omega) rfl ?_
    refine sp_X4_cl (by omega) c 3 (by omega) (by omega) (k_aftv ((l_paid l c)) ((hL.2.2.1 c (by omega)).2.1) ?_)
    refine k_ireturn hK ti_106_69 rk_106 mc_106 ms_106 (Nat.le_of_ble_eq_true rfl) (Nat.le_of_ble_eq_true rfl) ?_
    exact h
  · refine k_swd hK ti_106_1 (by decide) (by decide) (by decide) jt_1_69 ?_
    refine k_aload_n hK ti_106_70 rfl ?_
    refine k_iload_n hK ti_106_71 rfl ?_
    refine k_callV hK (as := [.int _]) (st' := []) ti_106_72 ow_106 iv_4_122 mc_106 ms_106 rfl rfl (by omega) (Nat.le_of_ble_eq_true rfl) (Nat.le_of_ble_eq_true rfl) (Nat.le_of_ble_eq_true rfl) (Nat.le_of_ble_eq_true rfl) (by omega) rfl ?_
    refine sp_X4_fits (by omega) c hG hL (by omega) ?_
    refine k_ireturn hK ti_106_75 rk_106 mc_106 ms_106 (Nat.le_of_ble_eq_true rfl) (Nat.le_of_ble_eq_true rfl) ?_
    exact h

set_option maxRecDepth 100000 in
set_option maxHeartbeats 4000000 in
theorem sp_X4_counted {X : dp_X} {d n : Nat} {M : dp_M} {o : Int64} {Q : dp_Q} (h65 : 65 ≤ n) {s : GSt} {l : LSt} (w : Nat) (hG : RG M s) (hL : RLt M l) (hw : w < 7) (h : Q (.inl (some (.int (nT s l w)))) M o) : dp_run X (d + 2 + 1) 109 [.ref 22, .int (nI w)] n M o Q := by
  apply k_run
  intro K hK
  rw [mL_109]
  show K 0 [some (.ref 22), some (.int (nI w)), none, none, none, none] [] n 0 0 M o
  have hA16 := hG.1.1
  have hC6 := hG.1.2.1
  refine k_iconst hK ti_109_0 kI_0 ?_
  refine k_istore_n hK (L' := [some (.ref 22), some (.int _), some (.int _), none, none, none]) ti_109_1 rfl ?_
  refine k_iload_n hK ti_109_2 rfl ?_
  have hw7 : w = 0 ∨ w = 1 ∨ w = 2 ∨ w = 3 ∨ w = 4 ∨ w = 5 ∨ w = 6 := by omega
  rcases hw7 with rfl | rfl | rfl | rfl | rfl | rfl | rfl
  · refine k_swl hK (off := 37) ti_109_3 (by decide) rfl (by decide) jt_3_37 ?_
    refine k_aload_n hK ti_109_40 rfl ?_
    refine k_geti hK (nI (g_nA s)) ti_109_41 ow_109 fd_4_23 (by omega) rfl rfl hG.2.1 ?_
    refine k_ireturn hK ti_109_44 rk_109 mc_109 ms_109 (Nat.le_of_ble_eq_true rfl) (Nat.le_of_ble_eq_true rfl) ?_
    exact h
  · refine k_swl hK (off := 42) ti_109_3 (by decide) rfl (by decide) jt_3_42 ?_
    refine k_aload_n hK ti_109_45 rfl ?_
    refine k_geti hK (nI (g_nC s)) ti_109_46 ow_109 fd_4_30 (by omega) rfl rfl hG.2.2.1 ?_
    refine k_ireturn hK ti_109_49 rk_109 mc_109 ms_109 (Nat.le_of_ble_eq_true rfl) (Nat.le_of_ble_eq_true rfl) ?_
    exact h
  · refine k_swl hK (off := 47) ti_109_3 (by decide) rfl (by decide) jt_3_47 ?_
    refine k_iconst hK ti_109_50 kI_0 ?_
    refine k_istore_n hK (L' := [some (.ref 22), some (.int _), some (.int _), some (.int _), none, none]) ti_109_51 rfl ?_
    have loop : ∀ (f i : Nat), i ≤ (g_nA s) → (g_nA s) - i < f → K 52 [some (.ref 22), some (.int (nI 2)), some (.int (nI (sN i (g_len s)))), some (.int (nI i)), none, none] [] n 0 0 M o := by
      intro f
      induction f with
      | zero => intro i h1 h2; omega
      | succ f ih =>
        intro i h1 h2
        have hsl := sN_le (f := g_len s) (b := 12) (n := i) (fun k hk => hG.1.2.2.2.1 k (by omega))
        refine k_iload_n hK ti_109_52 rfl ?_
        refine k_aload_n hK ti_109_53 rfl ?_
        refine k_geti hK (nI (g_nA s)) ti_109_54 ow_109 fd_4_23 (by omega) rfl rfl hG.2.1 ?_
        refine kn_ge hK (by omega) (by omega) ti_109_57 jt_57_18 (fun c_57 => ?_) (fun c_57 => ?_)
        · refine k_iload_n hK ti_109_60 rfl ?_
          refine k_aload_n hK ti_109_61 rfl ?_
          refine k_iload_n hK ti_109_62 rfl ?_
          refine k_iconst hK ti_109_63 kI_0 ?_
          refine k_callV hK (as := [.int _, .int _]) (st' := [.int _]) ti_109_64 ow_109 iv_4_47 mc_109 ms_109 rfl rfl (by omega) (Nat.le_of_ble_eq_true rfl) (Nat.le_of_ble_eq_true rfl) (Nat.le_of_ble_eq_true rfl) (Nat.le_of_ble_eq_true rfl) (by omega) rfl ?_
          refine sp_X4_ar (by omega) i 0 (by omega) (by omega) (k_aftv ((nI (g_len s i))) (hG.2.2.2.2.1 i (by omega)) ?_)
          refine k_iadd hK (z := (nI (sN (i + 1) (g_len s)))) ti_109_67 (nI_add _ _) ?_
          refine k_istore_n hK (L' := [some (.ref 22), some (.int _), some (.int _), some (.int _), none, none]) ti_109_68 rfl ?_
          refine k_iinc hK (L' := [some (.ref 22), some (.int _), some (.int _), some (.int (nI (i + 1))), none, none]) ti_109_69 rfl (by rw [kI_1, nI_add]) rfl ?_
          refine k_goto hK ti_109_72 jt_72_m20 ?_
          exact ih (i + 1) (by omega) (by omega) 
        · obtain rfl : i = (g_nA s) := by omega
          refine k_iload_n hK ti_109_75 rfl ?_
          refine k_ireturn hK ti_109_76 rk_109 mc_109 ms_109 (Nat.le_of_ble_eq_true rfl) (Nat.le_of_ble_eq_true rfl) ?_
          exact h
    exact loop ((g_nA s) - 0 + 1) 0 (by omega) (by omega) 
  · refine k_swl hK (off := 74) ti_109_3 (by decide) rfl (by decide) jt_3_74 ?_
    refine k_iconst hK ti_109_77 kI_0 ?_
    refine k_istore_n hK (L' := [some (.ref 22), some (.int _), some (.int _), some (.int _), none, none]) ti_109_78 rfl ?_
    have loop : ∀ (f i : Nat) (u : Option Value) (v : Option Value), i ≤ 20 → 20 - i < f → K 79 [some (.ref 22), some (.int (nI 3)), some (.int (nI (cnt i (fun x => decide (0 < hvn s x))))), some (.int (nI i)), u, v] [] n 0 0 M o := by
      intro f
      induction f with
      | zero => intro i u v h1 h2; omega
      | succ f ih =>
        intro i u v h1 h2
        have hcl := cnt_le (fun x => decide (0 < hvn s x)) i
        refine k_iload_n hK ti_109_79 rfl ?_
        refine k_bipush hK ti_109_80 kB_20 ?_
        refine kn_ge hK (by omega) (by omega) ti_109_82 jt_82_55 (fun c_82 => ?_) (fun c_82 => ?_)
        · refine k_iconst hK ti_109_85 kI_0 ?_
          refine k_istore hK (L' := [some (.ref 22), some (.int _), some (.int _), some (.int _), some (.int _), v]) ti_109_86 rfl ?_
          refine k_iconst hK ti_109_88 kI_0 ?_
          refine k_istore hK (L' := [some (.ref 22), some (.int _), some (.int _), some (.int _), some (.int _), some (.int _)]) ti_109_89 rfl ?_
          have loop2 : ∀ (f2 j : Nat), j ≤ (g_nA s) → (g_nA s) - j < f2 → K 91 [some (.ref 22), some (.int (nI 3)), some (.int (nI (cnt i (fun x => decide (0 < hvn s x))))), some (.int (nI i)), some (.int (nI (sN j (fun a => tm s a i)))), some (.int (nI j))] [] n 0 0 M o := by
            intro f2
            induction f2 with
            | zero => intro j h12 h22; omega
            | succ f2 ih2 =>
              intro j h12 h22
              have hsl := sN_le (f := fun a => tm s a i) (b := 12) (n := j) (fun k hk => tm_le hG.1 (by omega) i)
              refine k_iload hK ti_109_91 rfl ?_
              refine k_aload_n hK ti_109_93 rfl ?_
              refine k_geti hK (nI (g_nA s)) ti_109_94 ow_109 fd_4_23 (by omega) rfl rfl hG.2.1 ?_
              refine kn_ge hK (by omega) (by omega) ti_109_97 jt_97_21 (fun c_97 => ?_) (fun c_97 => ?_)
              · refine k_iload hK ti_109_100 rfl ?_
                refine k_aload_n hK ti_109_102 rfl ?_
                refine k_iload hK ti_109_103 rfl ?_
                refine k_iload_n hK ti_109_105 rfl ?_
                refine k_callV hK (as := [.int _, .int _]) (st' := [.int _]) ti_109_106 ow_109 iv_4_75 mc_109 ms_109 rfl rfl (by omega) (Nat.le_of_ble_eq_true rfl) (Nat.le_of_ble_eq_true rfl) (Nat.le_of_ble_eq_true rfl) (Nat.le_of_ble_eq_true rfl) (by omega) rfl ?_
                refine sp_X4_times (by omega) j i hG (by omega) (by omega) ?_
                refine k_iadd hK (z := (nI (sN (j + 1) (fun a => tm s a i)))) ti_109_109 (nI_add _ _) ?_
                refine k_istore hK (L' := [some (.ref 22), some (.int _), some (.int _), some (.int _), some (.int _), some (.int _)]) ti_109_110 rfl ?_
                refine k_iinc hK (L' := [some (.ref 22), some (.int _), some (.int _), some (.int _), some (.int _), some (.int (nI (j + 1)))]) ti_109_112 rfl (by rw [kI_1, nI_add]) rfl ?_
                refine k_goto hK ti_109_115 jt_115_m24 ?_
                exact ih2 (j + 1) (by omega) (by omega) 
              · obtain rfl : j = (g_nA s) := by omega
                have e6 := sN_pos (f := fun a => tm s a i) (n := g_nA s)
                refine k_iload_n hK ti_109_118 rfl ?_
                refine k_iload hK ti_109_119 rfl ?_
                refine kz_le hK (by omega) ti_109_121 jt_121_7 (fun c_121 => ?_) (fun c_121 => ?_)
                · refine k_iconst hK ti_109_124 kI_1 ?_
                  refine k_goto hK ti_109_125 jt_125_4 ?_
                  refine k_iadd hK (z := (nI (cnt (i + 1) (fun x => decide (0 < hvn s x))))) ti_109_129 (by rw [cnt_t (e6.symm.trans (decide_eq_true c_121)), nI_add]) ?_
                  refine k_istore_n hK (L' := [some (.ref 22), some (.int _), some (.int _), some (.int _), some (.int _), some (.int _)]) ti_109_130 rfl ?_
                  refine k_iinc hK (L' := [some (.ref 22), some (.int _), some (.int _), some (.int (nI (i + 1))), some (.int _), some (.int _)]) ti_109_131 rfl (by rw [kI_1, nI_add]) rfl ?_
                  refine k_goto hK ti_109_134 jt_134_m55 ?_
                  exact ih (i + 1) _ _ (by omega) (by omega) 
                · refine k_iconst hK ti_109_128 kI_0 ?_
                  refine k_iadd hK (z := (nI (cnt (i + 1) (fun x => decide (0 < hvn s x))))) ti_109_129 (by rw [cnt_f (e6.symm.trans (decide_eq_false c_121)), nI_add, Nat.add_zero]) ?_
                  refine k_istore_n hK (L' := [some (.ref 22), some (.int _), some (.int _), some (.int _), some (.int _), some (.int _)]) ti_109_130 rfl ?_
                  refine k_iinc hK (L' := [some (.ref 22), some (.int _), some (.int _), some (.int (nI (i + 1))), some (.int _), some (.int _)]) ti_109_131 rfl (by rw [kI_1, nI_add]) rfl ?_
                  refine k_goto hK ti_109_134 jt_134_m55 ?_
                  exact ih (i + 1) _ _ (by omega) (by omega) 
          exact loop2 ((g_nA s) - 0 + 1) 0 (by omega) (by omega) 
        · obtain rfl : i = 20 := by omega
          refine k_iload_n hK ti_109_137 rfl ?_
          refine k_ireturn hK ti_109_138 rk_109 mc_109 ms_109 (Nat.le_of_ble_eq_true rfl) (Nat.le_of_ble_eq_true rfl) ?_
          exact h
    exact loop (20 - 0 + 1) 0 _ _ (by omega) (by omega) 
  · refine k_swl hK (off := 136) ti_109_3 (by decide) rfl (by decide) jt_3_136 ?_
    refine k_aload_n hK ti_109_139 rfl ?_
    refine k_geti hK (l_rnd l) ti_109_140 ow_109 fd_4_100 (by omega) rfl rfl hL.2.2.2 ?_
    refine k_ireturn hK ti_109_143 rk_109 mc_109 ms_109 (Nat.le_of_ble_eq_true rfl) (Nat.le_of_ble_eq_true rfl) ?_
    exact h
  · refine k_swl hK (off := 141) ti_109_3 (by decide) rfl (by decide) jt_3_141 ?_
    refine k_iconst hK ti_109_144 kI_0 ?_
    refine k_istore_n hK (L' := [some (.ref 22), some (.int _), some (.int _), some (.int _), none, none]) ti_109_145 rfl ?_
    have loop : ∀ (f i : Nat), i ≤ (g_nC s) → (g_nC s) - i < f → K 146 [some (.ref 22), some (.int (nI 5)), some (.int (nI (sN i (fun c => snt s l c)))), some (.int (nI i)), none, none] [] n 0 0 M o := by
      intro f
      induction f with
      | zero => intro i h1 h2; omega
      | succ f ih =>
        intro i h1 h2
        have hsl := sN_le (f := fun c => snt s l c) (b := 16) (n := i) (fun k hk => Nat.le_trans (cnt_le _ _) hA16)
        refine k_iload_n hK ti_109_146 rfl ?_
        refine k_aload_n hK ti_109_147 rfl ?_
        refine k_geti hK (nI (g_nC s)) ti_109_148 ow_109 fd_4_30 (by omega) rfl rfl hG.2.2.1 ?_
        refine kn_ge hK (by omega) (by omega) ti_109_151 jt_151_17 (fun c_151 => ?_) (fun c_151 => ?_)
        · refine k_iload_n hK ti_109_154 rfl ?_
          refine k_aload_n hK ti_109_155 rfl ?_
          refine k_iload_n hK ti_109_156 rfl ?_
          refine k_callV hK (as := [.int _]) (st' := [.int _]) ti_109_157 ow_109 iv_4_119 mc_109 ms_109 rfl rfl (by omega) (Nat.le_of_ble_eq_true rfl) (Nat.le_of_ble_eq_true rfl) (Nat.le_of_ble_eq_true rfl) (Nat.le_of_ble_eq_true rfl) (by omega) rfl ?_
          refine sp_X4_sent (by omega) i hG hL (by omega) ?_
          refine k_iadd hK (z := (nI (sN (i + 1) (fun c => snt s l c)))) ti_109_160 (nI_add _ _) ?_
          refine k_istore_n hK (L' := [some (.ref 22), some (.int _), some (.int _), some (.int _), none, none]) ti_109_161 rfl ?_
          refine k_iinc hK (L' := [some (.ref 22), some (.int _), some (.int _), some (.int (nI (i + 1))), none, none]) ti_109_162 rfl (by rw [kI_1, nI_add]) rfl ?_
          refine k_goto hK ti_109_165 jt_165_m19 ?_
          exact ih (i + 1) (by omega) (by omega) 
        · obtain rfl : i = (g_nC s) := by omega
          refine k_iload_n hK ti_109_168 rfl ?_
          refine k_ireturn hK ti_109_169 rk_109 mc_109 ms_109 (Nat.le_of_ble_eq_true rfl) (Nat.le_of_ble_eq_true rfl) ?_
          exact h
    exact loop ((g_nC s) - 0 + 1) 0 (by omega) (by omega) 
  · refine k_swd hK ti_109_3 (by decide) (by decide) (by decide) jt_3_167 ?_
    refine k_iconst hK ti_109_170 kI_0 ?_
    refine k_istore_n hK (L' := [some (.ref 22), some (.int _), some (.int _), some (.int _), none, none]) ti_109_171 rfl ?_
    have loop : ∀ (f i : Nat), i ≤ (g_nC s) → (g_nC s) - i < f → K 172 [some (.ref 22), some (.int (nI 6)), some (.int (sm i (l_paid l))), some (.int (nI i)), none, none] [] n 0 0 M o := by
      intro f
      induction f with
      | zero => intro i h1 h2; omega
      | succ f ih =>
        intro i h1 h2
        refine k_iload_n hK ti_109_172 rfl ?_
        refine k_aload_n hK ti_109_173 rfl ?_
        refine k_geti hK (nI (g_nC s)) ti_109_174 ow_109 fd_4_30 (by omega) rfl rfl hG.2.2.1 ?_
        refine kn_ge hK (by omega) (by omega) ti_109_177 jt_177_18 (fun c_177 => ?_) (fun c_177 => ?_)
        · refine k_iload_n hK ti_109_180 rfl ?_
          refine k_aload_n hK ti_109_181 rfl ?_
          refine k_iload_n hK ti_109_182 rfl ?_
          refine k_iconst hK ti_109_183 kI_3 ?_
          refine k_callV hK (as := [.int _, .int _]) (st' := [.int _]) ti_109_184 ow_109 iv_4_61 mc_109 ms_109 rfl rfl (by omega) (Nat.le_of_ble_eq_true rfl) (Nat.le_of_ble_eq_true rfl) (Nat.le_of_ble_eq_true rfl) (Nat.le_of_ble_eq_true rfl) (by omega) rfl ?_
          refine sp_X4_cl (by omega) i 3 (by omega) (by omega) (k_aftv ((l_paid l i)) ((hL.2.2.1 i (by omega)).2.1) ?_)
          refine k_iadd hK (z := (sm (i + 1) (l_paid l))) ti_109_187 rfl ?_
          refine k_istore_n hK (L' := [some (.ref 22), some (.int _), some (.int _), some (.int _), none, none]) ti_109_188 rfl ?_
          refine k_iinc hK (L' := [some (.ref 22), some (.int _), some (.int _), some (.int (nI (i + 1))), none, none]) ti_109_189 rfl (by rw [kI_1, nI_add]) rfl ?_
          refine k_goto hK ti_109_192 jt_192_m20 ?_
          exact ih (i + 1) (by omega) (by omega) 
        · obtain rfl : i = (g_nC s) := by omega
          refine k_iload_n hK ti_109_195 rfl ?_
          refine k_ireturn hK ti_109_196 rk_109 mc_109 ms_109 (Nat.le_of_ble_eq_true rfl) (Nat.le_of_ble_eq_true rfl) ?_
          exact h
    exact loop ((g_nC s) - 0 + 1) 0 (by omega) (by omega) 
