/-! The reference: what is told. (written by wip/whole/ref4.py) -/
set_option maxRecDepth 100000 in
set_option maxHeartbeats 4000000 in
theorem sp_X4_stemsOf {X : dp_X} {d n : Nat} {M : dp_M} {o : Int64} {Q : dp_Q} (h65 : 65 ≤ n) {s : GSt} {l : LSt} (a : Nat) (hG : RG M s) (hL : RLt M l) (ha : a < 16) (h : Q (.inl (some (.int (nI (stA s a))))) M o) : dp_run X (d + 2 + 1) 100 [.ref 22, .int (nI a)] n M o Q := by
  apply k_run
  intro K hK
  rw [mL_100]
  show K 0 [some (.ref 22), some (.int (nI a)), none, none] [] n 0 0 M o
  have hA16 := hG.1.1
  have hC6 := hG.1.2.1
  refine k_iconst hK ti_100_0 kI_0 ?_
  refine k_istore_n hK (L' := [some (.ref 22), some (.int _), some (.int _), none]) ti_100_1 rfl ?_
  refine k_iconst hK ti_100_2 kI_0 ?_
  refine k_istore_n hK (L' := [some (.ref 22), some (.int _), some (.int _), some (.int _)]) ti_100_3 rfl ?_
  have loop : ∀ (f i : Nat), i ≤ 20 → 20 - i < f → K 4 [some (.ref 22), some (.int (nI a)), some (.int (nI (cnt i (fun x => decide (0 < tm s a x))))), some (.int (nI i))] [] n 0 0 M o := by
    intro f
    induction f with
    | zero => intro i h1 h2; omega
    | succ f ih =>
      intro i h1 h2
      have hcl := cnt_le (fun x => decide (0 < tm s a x)) i
      refine k_iload_n hK ti_100_4 rfl ?_
      refine k_bipush hK ti_100_5 kB_20 ?_
      refine kn_ge hK (by omega) (by omega) ti_100_7 jt_7_26 (fun c_7 => ?_) (fun c_7 => ?_)
      · have htm := tm_le hG.1 (a := a) (by omega) i
        refine k_iload_n hK ti_100_10 rfl ?_
        refine k_aload_n hK ti_100_11 rfl ?_
        refine k_iload_n hK ti_100_12 rfl ?_
        refine k_iload_n hK ti_100_13 rfl ?_
        refine k_callV hK (as := [.int _, .int _]) (st' := [.int _]) ti_100_14 ow_100 iv_4_75 mc_100 ms_100 rfl rfl (by omega) (Nat.le_of_ble_eq_true rfl) (Nat.le_of_ble_eq_true rfl) (Nat.le_of_ble_eq_true rfl) (Nat.le_of_ble_eq_true rfl) (by omega) rfl ?_
        refine sp_X4_times (by omega) a i hG (by omega) (by omega) ?_
        refine kz_le hK (by omega) ti_100_17 jt_17_7 (fun c_17 => ?_) (fun c_17 => ?_)
        · refine k_iconst hK ti_100_20 kI_1 ?_
          refine k_goto hK ti_100_21 jt_21_4 ?_
          refine k_iadd hK (z := (nI (cnt (i + 1) (fun x => decide (0 < tm s a x))))) ti_100_25 (by rw [cnt_t (by simp [c_17]), nI_add]) ?_
          refine k_istore_n hK (L' := [some (.ref 22), some (.int _), some (.int _), some (.int _)]) ti_100_26 rfl ?_
          refine k_iinc hK (L' := [some (.ref 22), some (.int _), some (.int _), some (.int (nI (i + 1)))]) ti_100_27 rfl (by rw [kI_1, nI_add]) rfl ?_
          refine k_goto hK ti_100_30 jt_30_m26 ?_
          exact ih (i + 1) (by omega) (by omega) 
        · refine k_iconst hK ti_100_24 kI_0 ?_
          refine k_iadd hK (z := (nI (cnt (i + 1) (fun x => decide (0 < tm s a x))))) ti_100_25 (by rw [cnt_f (by simp [c_17]), nI_add, Nat.add_zero]) ?_
          refine k_istore_n hK (L' := [some (.ref 22), some (.int _), some (.int _), some (.int _)]) ti_100_26 rfl ?_
          refine k_iinc hK (L' := [some (.ref 22), some (.int _), some (.int _), some (.int (nI (i + 1)))]) ti_100_27 rfl (by rw [kI_1, nI_add]) rfl ?_
          refine k_goto hK ti_100_30 jt_30_m26 ?_
          exact ih (i + 1) (by omega) (by omega) 
      · obtain rfl : i = 20 := by omega
        refine k_iload_n hK ti_100_33 rfl ?_
        refine k_ireturn hK ti_100_34 rk_100 mc_100 ms_100 (Nat.le_of_ble_eq_true rfl) (Nat.le_of_ble_eq_true rfl) ?_
        exact h
  exact loop (20 - 0 + 1) 0 (by omega) (by omega) 

set_option maxRecDepth 100000 in
set_option maxHeartbeats 4000000 in
theorem sp_X4_sentTo {X : dp_X} {d n : Nat} {M : dp_M} {o : Int64} {Q : dp_Q} (h65 : 65 ≤ n) {s : GSt} {l : LSt} (a : Nat) (hG : RG M s) (hL : RLt M l) (ha : a < 16) (h : Q (.inl (some (.int (nI (rcv s l a))))) M o) : dp_run X (d + 1 + 1) 101 [.ref 22, .int (nI a)] n M o Q := by
  apply k_run
  intro K hK
  rw [mL_101]
  show K 0 [some (.ref 22), some (.int (nI a)), none, none] [] n 0 0 M o
  have hA16 := hG.1.1
  have hC6 := hG.1.2.1
  refine k_iconst hK ti_101_0 kI_0 ?_
  refine k_istore_n hK (L' := [some (.ref 22), some (.int _), some (.int _), none]) ti_101_1 rfl ?_
  refine k_iconst hK ti_101_2 kI_0 ?_
  refine k_istore_n hK (L' := [some (.ref 22), some (.int _), some (.int _), some (.int _)]) ti_101_3 rfl ?_
  have loop : ∀ (f i : Nat), i ≤ g_nC s → g_nC s - i < f → K 4 [some (.ref 22), some (.int (nI a)), some (.int (nI (cnt i (fun c => bit (l_sent l c) a)))), some (.int (nI i))] [] n 0 0 M o := by
    intro f
    induction f with
    | zero => intro i h1 h2; omega
    | succ f ih =>
      intro i h1 h2
      have hcl := cnt_le (fun c => bit (l_sent l c) a) i
      refine k_iload_n hK ti_101_4 rfl ?_
      refine k_aload_n hK ti_101_5 rfl ?_
      refine k_geti hK (nI (g_nC s)) ti_101_6 ow_101 fd_4_30 (by omega) rfl rfl hG.2.2.1 ?_
      refine kn_ge hK (by omega) (by omega) ti_101_9 jt_9_22 (fun c_9 => ?_) (fun c_9 => ?_)
      · have hs16 := hL.1 i (by omega)
        refine k_iload_n hK ti_101_12 rfl ?_
        refine k_aload_n hK ti_101_13 rfl ?_
        refine k_iload_n hK ti_101_14 rfl ?_
        refine k_iconst hK ti_101_15 kI_4 ?_
        refine k_callV hK (as := [.int _, .int _]) (st' := [.int _]) ti_101_16 ow_101 iv_4_61 mc_101 ms_101 rfl rfl (by omega) (Nat.le_of_ble_eq_true rfl) (Nat.le_of_ble_eq_true rfl) (Nat.le_of_ble_eq_true rfl) (Nat.le_of_ble_eq_true rfl) (by omega) rfl ?_
        refine sp_X4_cl (by omega) i 4 (by omega) (by omega) (k_aftv ((nI (l_sent l i))) ((hL.2.2.1 i (by omega)).2.2) ?_)
        refine k_iload_n hK ti_101_19 rfl ?_
        refine k_ishr hK ti_101_20 rfl ?_
        refine k_iconst hK ti_101_21 kI_1 ?_
        refine k_iand hK (z := (bl (bit (l_sent l i) a))) ti_101_22 (nI_bit (by omega) (by omega)) ?_
        refine k_iadd hK (z := (nI (cnt (i + 1) (fun c => bit (l_sent l c) a)))) ti_101_23 (nI_cntb (fun c => bit (l_sent l c) a) i) ?_
        refine k_istore_n hK (L' := [some (.ref 22), some (.int _), some (.int _), some (.int _)]) ti_101_24 rfl ?_
        refine k_iinc hK (L' := [some (.ref 22), some (.int _), some (.int _), some (.int (nI (i + 1)))]) ti_101_25 rfl (by rw [kI_1, nI_add]) rfl ?_
        refine k_goto hK ti_101_28 jt_28_m24 ?_
        exact ih (i + 1) (by omega) (by omega) 
      · obtain rfl : i = g_nC s := by omega
        refine k_iload_n hK ti_101_31 rfl ?_
        refine k_ireturn hK ti_101_32 rk_101 mc_101 ms_101 (Nat.le_of_ble_eq_true rfl) (Nat.le_of_ble_eq_true rfl) ?_
        exact h
  exact loop (g_nC s - 0 + 1) 0 (by omega) (by omega) 

set_option maxRecDepth 100000 in
set_option maxHeartbeats 4000000 in
theorem sp_X4_sent {X : dp_X} {d n : Nat} {M : dp_M} {o : Int64} {Q : dp_Q} (h65 : 65 ≤ n) {s : GSt} {l : LSt} (c : Nat) (hG : RG M s) (hL : RLt M l) (hc : c < 6) (h : Q (.inl (some (.int (nI (snt s l c))))) M o) : dp_run X (d + 1 + 1) 105 [.ref 22, .int (nI c)] n M o Q := by
  apply k_run
  intro K hK
  rw [mL_105]
  show K 0 [some (.ref 22), some (.int (nI c)), none, none] [] n 0 0 M o
  have hA16 := hG.1.1
  have hC6 := hG.1.2.1
  have hs16 := hL.1 c (by omega)
  refine k_iconst hK ti_105_0 kI_0 ?_
  refine k_istore_n hK (L' := [some (.ref 22), some (.int _), some (.int _), none]) ti_105_1 rfl ?_
  refine k_iconst hK ti_105_2 kI_0 ?_
  refine k_istore_n hK (L' := [some (.ref 22), some (.int _), some (.int _), some (.int _)]) ti_105_3 rfl ?_
  have loop : ∀ (f i : Nat), i ≤ g_nA s → g_nA s - i < f → K 4 [some (.ref 22), some (.int (nI c)), some (.int (nI (cnt i (fun a => bit (l_sent l c) a)))), some (.int (nI i))] [] n 0 0 M o := by
    intro f
    induction f with
    | zero => intro i h1 h2; omega
    | succ f ih =>
      intro i h1 h2
      have hcl := cnt_le (fun a => bit (l_sent l c) a) i
      refine k_iload_n hK ti_105_4 rfl ?_
      refine k_aload_n hK ti_105_5 rfl ?_
      refine k_geti hK (nI (g_nA s)) ti_105_6 ow_105 fd_4_23 (by omega) rfl rfl hG.2.1 ?_
      refine kn_ge hK (by omega) (by omega) ti_105_9 jt_9_22 (fun c_9 => ?_) (fun c_9 => ?_)
      · refine k_iload_n hK ti_105_12 rfl ?_
        refine k_aload_n hK ti_105_13 rfl ?_
        refine k_iload_n hK ti_105_14 rfl ?_
        refine k_iconst hK ti_105_15 kI_4 ?_
        refine k_callV hK (as := [.int _, .int _]) (st' := [.int _]) ti_105_16 ow_105 iv_4_61 mc_105 ms_105 rfl rfl (by omega) (Nat.le_of_ble_eq_true rfl) (Nat.le_of_ble_eq_true rfl) (Nat.le_of_ble_eq_true rfl) (Nat.le_of_ble_eq_true rfl) (by omega) rfl ?_
        refine sp_X4_cl (by omega) c 4 (by omega) (by omega) (k_aftv ((nI (l_sent l c))) ((hL.2.2.1 c (by omega)).2.2) ?_)
        refine k_iload_n hK ti_105_19 rfl ?_
        refine k_ishr hK ti_105_20 rfl ?_
        refine k_iconst hK ti_105_21 kI_1 ?_
        refine k_iand hK (z := (bl (bit (l_sent l c) i))) ti_105_22 (nI_bit (by omega) (by omega)) ?_
        refine k_iadd hK (z := (nI (cnt (i + 1) (fun a => bit (l_sent l c) a)))) ti_105_23 (nI_cntb (fun a => bit (l_sent l c) a) i) ?_
        refine k_istore_n hK (L' := [some (.ref 22), some (.int _), some (.int _), some (.int _)]) ti_105_24 rfl ?_
        refine k_iinc hK (L' := [some (.ref 22), some (.int _), some (.int _), some (.int (nI (i + 1)))]) ti_105_25 rfl (by rw [kI_1, nI_add]) rfl ?_
        refine k_goto hK ti_105_28 jt_28_m24 ?_
        exact ih (i + 1) (by omega) (by omega) 
      · obtain rfl : i = g_nA s := by omega
        refine k_iload_n hK ti_105_31 rfl ?_
        refine k_ireturn hK ti_105_32 rk_105 mc_105 ms_105 (Nat.le_of_ble_eq_true rfl) (Nat.le_of_ble_eq_true rfl) ?_
        exact h
  exact loop (g_nA s - 0 + 1) 0 (by omega) (by omega) 

set_option maxRecDepth 100000 in
set_option maxHeartbeats 4000000 in
theorem sp_X4_articleTold {X : dp_X} {d n : Nat} {M : dp_M} {o : Int64} {Q : dp_Q} (h65 : 65 ≤ n) {s : GSt} {l : LSt} (a w : Nat) (hG : RG M s) (hL : RLt M l) (ha : a < 16) (hw : w < 4) (h : Q (.inl (some (.int (aT s l a w)))) M o) : dp_run X (d + 3 + 1) 102 [.ref 22, .int (nI a), .int (nI w)] n M o Q := by
  apply k_run
  intro K hK
  rw [mL_102]
  show K 0 [some (.ref 22), some (.int (nI a)), some (.int (nI w))] [] n 0 0 M o
  have hA16 := hG.1.1
  have hC6 := hG.1.2.1
  refine k_iload_n hK ti_102_0 rfl ?_
  refine kz_ne hK (by omega) ti_102_1 jt_1_12 (fun c_1 => ?_) (fun c_1 => ?_)
  · rw [show aT s l a w = nI (g_len s a) from if_pos c_1] at h
    refine k_aload_n hK ti_102_4 rfl ?_
    refine k_iload_n hK ti_102_5 rfl ?_
    refine k_iconst hK ti_102_6 kI_0 ?_
    refine k_callV hK (as := [.int _, .int _]) (st' := []) ti_102_7 ow_102 iv_4_47 mc_102 ms_102 rfl rfl (by omega) (Nat.le_of_ble_eq_true rfl) (Nat.le_of_ble_eq_true rfl) (Nat.le_of_ble_eq_true rfl) (Nat.le_of_ble_eq_true rfl) (by omega) rfl ?_
    refine sp_X4_ar (by omega) a 0 (by omega) (by omega) (k_aftv ((nI (g_len s a))) (hG.2.2.2.2.1 a (by omega)) ?_)
    refine k_goto hK ti_102_10 jt_10_35 ?_
    refine k_ireturn hK ti_102_45 rk_102 mc_102 ms_102 (Nat.le_of_ble_eq_true rfl) (Nat.le_of_ble_eq_true rfl) ?_
    exact h
  · refine k_iload_n hK ti_102_13 rfl ?_
    refine k_iconst hK ti_102_14 kI_1 ?_
    refine kn_ne hK (by omega) (by omega) ti_102_15 jt_15_11 (fun c_15 => ?_) (fun c_15 => ?_)
    · rw [show aT s l a w = nI (stA s a) from (if_neg c_1).trans (if_pos c_15)] at h
      refine k_aload_n hK ti_102_18 rfl ?_
      refine k_iload_n hK ti_102_19 rfl ?_
      refine k_callV hK (as := [.int _]) (st' := []) ti_102_20 ow_102 iv_4_110 mc_102 ms_102 rfl rfl (by omega) (Nat.le_of_ble_eq_true rfl) (Nat.le_of_ble_eq_true rfl) (Nat.le_of_ble_eq_true rfl) (Nat.le_of_ble_eq_true rfl) (by omega) rfl ?_
      refine sp_X4_stemsOf (by omega) a hG hL (by omega) ?_
      refine k_goto hK ti_102_23 jt_23_22 ?_
      refine k_ireturn hK ti_102_45 rk_102 mc_102 ms_102 (Nat.le_of_ble_eq_true rfl) (Nat.le_of_ble_eq_true rfl) ?_
      exact h
    · refine k_iload_n hK ti_102_26 rfl ?_
      refine k_iconst hK ti_102_27 kI_2 ?_
      refine kn_ne hK (by omega) (by omega) ti_102_28 jt_28_12 (fun c_28 => ?_) (fun c_28 => ?_)
      · rw [show aT s l a w = l_age l a from (if_neg c_1).trans ((if_neg c_15).trans (if_pos c_28))] at h
        refine k_aload_n hK ti_102_31 rfl ?_
        refine k_iload_n hK ti_102_32 rfl ?_
        refine k_iconst hK ti_102_33 kI_1 ?_
        refine k_callV hK (as := [.int _, .int _]) (st' := []) ti_102_34 ow_102 iv_4_47 mc_102 ms_102 rfl rfl (by omega) (Nat.le_of_ble_eq_true rfl) (Nat.le_of_ble_eq_true rfl) (Nat.le_of_ble_eq_true rfl) (Nat.le_of_ble_eq_true rfl) (by omega) rfl ?_
        refine sp_X4_ar (by omega) a 1 (by omega) (by omega) (k_aftv ((l_age l a)) (hL.2.1 a (by omega)) ?_)
        refine k_goto hK ti_102_37 jt_37_8 ?_
        refine k_ireturn hK ti_102_45 rk_102 mc_102 ms_102 (Nat.le_of_ble_eq_true rfl) (Nat.le_of_ble_eq_true rfl) ?_
        exact h
      · rw [show aT s l a w = nI (rcv s l a) from (if_neg c_1).trans ((if_neg c_15).trans (if_neg c_28))] at h
        refine k_aload_n hK ti_102_40 rfl ?_
        refine k_iload_n hK ti_102_41 rfl ?_
        refine k_callV hK (as := [.int _]) (st' := []) ti_102_42 ow_102 iv_4_113 mc_102 ms_102 rfl rfl (by omega) (Nat.le_of_ble_eq_true rfl) (Nat.le_of_ble_eq_true rfl) (Nat.le_of_ble_eq_true rfl) (Nat.le_of_ble_eq_true rfl) (by omega) rfl ?_
        refine sp_X4_sentTo (by omega) a hG hL (by omega) ?_
        refine k_ireturn hK ti_102_45 rk_102 mc_102 ms_102 (Nat.le_of_ble_eq_true rfl) (Nat.le_of_ble_eq_true rfl) ?_
        exact h
