/-! The class: what only reads. (written by wip/whole/cls1.py) -/
set_option maxRecDepth 100000 in
set_option maxHeartbeats 4000000 in
theorem sp_X0_wasSent_n {X : dp_X} {d n : Nat} {M : dp_M} {o : dp_O} {Q : dp_Q} (h65 : 65 ≤ n) {l : LSt} (c a : Nat) (hN : CLn M l) (hc : c < 6) (ha : a < 16) (h : Q (.inl (some (.int (bl (bit (l_sent l c) a))))) M o) : dp_run X (d + 0 + 1) 1 [.ref 3, .int (nI c), .int (nI a)] n M o Q := by
  apply k_run
  intro K hK
  rw [mL_1]
  show K 0 [some (.ref 3), some (.int (nI c)), some (.int (nI a))] [] n 0 0 M o
  have hs16 := hN.1 c hc
  refine k_aload_n hK ti_1_0 rfl ?_
  refine k_get hK ti_1_1 ow_1 fd_0_21 (by omega) rfl rfl ?_
  refine k_iload_n hK ti_1_4 rfl ?_
  refine k_ialdv (v := (nI (l_sent l c))) hK c ti_1_5 rfl (by omega) (by omega) rfl (by rw [dpl_17]; omega) (hN.2.2.1 c (by omega)).2.2 ?_
  refine k_iload_n hK ti_1_6 rfl ?_
  refine k_ishr hK ti_1_7 rfl ?_
  refine k_iconst hK ti_1_8 kI_1 ?_
  refine k_iand hK (z := (bl (bit (l_sent l c) a))) ti_1_9 (nI_bit (by omega) (by omega)) ?_
  refine k_iconst hK ti_1_10 kI_1 ?_
  refine k_icmp_ne hK ti_1_11 jt_11_7 (fun c_11 => ?_) (fun c_11 => ?_)
  · have e := bl_1 c_11
    rw [e] at h
    refine k_iconst hK ti_1_14 kI_1 ?_
    refine k_goto hK ti_1_15 jt_15_4 ?_
    refine k_zreturn hK ti_1_19 rk_1 mc_1 ms_1 (Nat.le_of_ble_eq_true rfl) (Nat.le_of_ble_eq_true rfl) (by decide) ?_
    exact h
  · have e := bl_n1 c_11
    rw [e] at h
    refine k_iconst hK ti_1_18 kI_0 ?_
    refine k_zreturn hK ti_1_19 rk_1 mc_1 ms_1 (Nat.le_of_ble_eq_true rfl) (Nat.le_of_ble_eq_true rfl) (by decide) ?_
    exact h

set_option maxRecDepth 100000 in
set_option maxHeartbeats 4000000 in
theorem sp_X0_wasSent_f {X : dp_X} {d n : Nat} {M : dp_M} {o : dp_O} {Q : dp_Q} (h65 : 65 ≤ n) {l : LSt} (c a : Nat) (hT : CLf M l) (hc : c < 6) (ha : a < 16) (h : Q (.inl (some (.int (bl (bit (l_sent l c) a))))) M o) : dp_run X (d + 0 + 1) 1 [.ref 4, .int (nI c), .int (nI a)] n M o Q := by
  apply k_run
  intro K hK
  rw [mL_1]
  show K 0 [some (.ref 4), some (.int (nI c)), some (.int (nI a))] [] n 0 0 M o
  have hs16 := hT.1 c hc
  refine k_aload_n hK ti_1_0 rfl ?_
  refine k_get hK ti_1_1 ow_1 fd_0_21 (by omega) rfl rfl ?_
  refine k_iload_n hK ti_1_4 rfl ?_
  refine k_ialdv (v := (nI (l_sent l c))) hK c ti_1_5 rfl (by omega) (by omega) rfl (by rw [dpl_21]; omega) (hT.2.2.1 c (by omega)).2.2 ?_
  refine k_iload_n hK ti_1_6 rfl ?_
  refine k_ishr hK ti_1_7 rfl ?_
  refine k_iconst hK ti_1_8 kI_1 ?_
  refine k_iand hK (z := (bl (bit (l_sent l c) a))) ti_1_9 (nI_bit (by omega) (by omega)) ?_
  refine k_iconst hK ti_1_10 kI_1 ?_
  refine k_icmp_ne hK ti_1_11 jt_11_7 (fun c_11 => ?_) (fun c_11 => ?_)
  · have e := bl_1 c_11
    rw [e] at h
    refine k_iconst hK ti_1_14 kI_1 ?_
    refine k_goto hK ti_1_15 jt_15_4 ?_
    refine k_zreturn hK ti_1_19 rk_1 mc_1 ms_1 (Nat.le_of_ble_eq_true rfl) (Nat.le_of_ble_eq_true rfl) (by decide) ?_
    exact h
  · have e := bl_n1 c_11
    rw [e] at h
    refine k_iconst hK ti_1_18 kI_0 ?_
    refine k_zreturn hK ti_1_19 rk_1 mc_1 ms_1 (Nat.le_of_ble_eq_true rfl) (Nat.le_of_ble_eq_true rfl) (by decide) ?_
    exact h

set_option maxRecDepth 100000 in
set_option maxHeartbeats 4000000 in
theorem sp_X2_stemOfWord {X : dp_X} {d n : Nat} {M : dp_M} {o : dp_O} {Q : dp_Q} (h65 : 65 ≤ n) {s : GSt} (w : Nat) (hC : CG M s) (hw : w < 40) (h : Q (.inl (some (.int (nI (g_st s w))))) M o) : dp_run X (d + 0 + 1) 10 [.ref 1, .int (nI w)] n M o Q := by
  apply k_run
  intro K hK
  rw [mL_10]
  show K 0 [some (.ref 1), some (.int (nI w))] [] n 0 0 M o
  have hA16 := hC.w.1
  have hC6 := hC.w.2.1
  refine k_iload_n hK ti_10_0 rfl ?_
  refine kz_lt hK (by omega) ti_10_1 jt_1_9 ?_
  refine k_iload_n hK ti_10_4 rfl ?_
  refine k_bipush hK ti_10_5 kB_40 ?_
  refine kn_lt hK (by omega) (by omega) ti_10_7 jt_7_7 (fun c_7 => ?_) (fun c_7 => ?_)
  · refine k_aload_n hK ti_10_14 rfl ?_
    refine k_get hK ti_10_15 ow_10 fd_2_9 (by omega) rfl rfl ?_
    refine k_iload_n hK ti_10_18 rfl ?_
    refine k_ialdv (v := (nI (g_st s w))) hK w ti_10_19 rfl (by omega) (by omega) rfl (by rw [dpl_6]; omega) (hC.st w (by omega)) ?_
    refine k_ireturn hK ti_10_20 rk_10 mc_10 ms_10 (Nat.le_of_ble_eq_true rfl) (Nat.le_of_ble_eq_true rfl) ?_
    exact h
  · exfalso; omega

set_option maxRecDepth 100000 in
set_option maxHeartbeats 4000000 in
theorem sp_X2_rarityOf {X : dp_X} {d n : Nat} {M : dp_M} {o : dp_O} {Q : dp_Q} (h65 : 65 ≤ n) {s : GSt} (x : Nat) (hC : CG M s) (hx : x < 20) (h : Q (.inl (some (.int (nI (rar s x))))) M o) : dp_run X (d + 0 + 1) 11 [.ref 1, .int (nI x)] n M o Q := by
  apply k_run
  intro K hK
  rw [mL_11]
  show K 0 [some (.ref 1), some (.int (nI x)), none] [] n 0 0 M o
  have hA16 := hC.w.1
  have hC6 := hC.w.2.1
  have hh := hvn_le hC.w x
  refine k_iload_n hK ti_11_0 rfl ?_
  refine kz_lt hK (by omega) ti_11_1 jt_1_9 ?_
  refine k_iload_n hK ti_11_4 rfl ?_
  refine k_bipush hK ti_11_5 kB_20 ?_
  refine kn_lt hK (by omega) (by omega) ti_11_7 jt_7_7 (fun c_7 => ?_) (fun c_7 => ?_)
  · refine k_aload_n hK ti_11_14 rfl ?_
    refine k_get hK ti_11_15 ow_11 fd_2_26 (by omega) rfl rfl ?_
    refine k_iload_n hK ti_11_18 rfl ?_
    refine k_ialdv (v := (nI (hvn s x))) hK x ti_11_19 rfl (by omega) (by omega) rfl (by rw [dpl_10]; omega) (hC.hv x (by omega)) ?_
    refine k_istore_n hK (L' := [some (.ref 1), some (.int _), some (.int _)]) ti_11_20 rfl ?_
    refine k_bipush hK ti_11_21 kB_10 ?_
    refine k_aload_n hK ti_11_23 rfl ?_
    refine k_geti hK (nI (g_nA s)) ti_11_24 ow_11 fd_2_35 (by omega) rfl rfl hC.nA ?_
    refine k_iconst hK ti_11_27 kI_1 ?_
    refine k_iadd hK (z := (nI (g_nA s + 1))) ti_11_28 (nI_add _ _) ?_
    refine k_imul hK (z := (nI (10 * (g_nA s + 1)))) ti_11_29 (pk_mul _ _) ?_
    refine k_iload_n hK ti_11_30 rfl ?_
    refine k_iconst hK ti_11_31 kI_1 ?_
    refine k_iadd hK (z := (nI (hvn s x + 1))) ti_11_32 (nI_add _ _) ?_
    refine k_idiv hK (z := (nI (rar s x))) ti_11_33 (nI_ne0 (by omega) (by omega)) (pk_div (by omega) (by omega) (by omega)) ?_
    refine k_ireturn hK ti_11_34 rk_11 mc_11 ms_11 (Nat.le_of_ble_eq_true rfl) (Nat.le_of_ble_eq_true rfl) ?_
    exact h
  · exfalso; omega

set_option maxRecDepth 100000 in
set_option maxHeartbeats 4000000 in
theorem sp_X2_timesOf {X : dp_X} {d n : Nat} {M : dp_M} {o : dp_O} {Q : dp_Q} (h65 : 65 ≤ n) {s : GSt} (a x : Nat) (hC : CG M s) (ha : a < 16) (hx : x < 20) (h : Q (.inl (some (.int (nI (tm s a x))))) M o) : dp_run X (d + 0 + 1) 12 [.ref 1, .int (nI a), .int (nI x)] n M o Q := by
  apply k_run
  intro K hK
  rw [mL_12]
  show K 0 [some (.ref 1), some (.int (nI a)), some (.int (nI x))] [] n 0 0 M o
  have hA16 := hC.w.1
  have hC6 := hC.w.2.1
  refine k_iload_n hK ti_12_0 rfl ?_
  refine kz_lt hK (by omega) ti_12_1 jt_1_9 ?_
  refine k_iload_n hK ti_12_4 rfl ?_
  refine k_bipush hK ti_12_5 kB_20 ?_
  refine kn_lt hK (by omega) (by omega) ti_12_7 jt_7_7 (fun c_7 => ?_) (fun c_7 => ?_)
  · refine k_aload_n hK ti_12_14 rfl ?_
    refine k_get hK ti_12_15 ow_12 fd_2_23 (by omega) rfl rfl ?_
    refine k_iload_n hK ti_12_18 rfl ?_
    refine k_aald9 hK a ti_12_19 (by omega) rfl (by omega) ?_
    refine k_iload_n hK ti_12_20 rfl ?_
    refine k_ialdv (v := (nI (tm s a x))) hK x ti_12_21 (dp_isA_t _ (by omega)) (by omega) (by omega) rfl (by rw [dpl_43 _ (by omega)]; omega) (hC.tm a x (by omega) (by omega)) ?_
    refine k_ireturn hK ti_12_22 rk_12 mc_12 ms_12 (Nat.le_of_ble_eq_true rfl) (Nat.le_of_ble_eq_true rfl) ?_
    exact h
  · exfalso; omega

set_option maxRecDepth 100000 in
set_option maxHeartbeats 4000000 in
theorem sp_X2_stemsOf {X : dp_X} {d n : Nat} {M : dp_M} {o : dp_O} {Q : dp_Q} (h65 : 65 ≤ n) {s : GSt} (a : Nat) (hC : CG M s) (ha : a < 16) (h : Q (.inl (some (.int (nI (stA s a))))) M o) : dp_run X (d + 0 + 1) 14 [.ref 1, .int (nI a)] n M o Q := by
  apply k_run
  intro K hK
  rw [mL_14]
  show K 0 [some (.ref 1), some (.int (nI a)), none, none] [] n 0 0 M o
  have hA16 := hC.w.1
  have hC6 := hC.w.2.1
  refine k_iconst hK ti_14_0 kI_0 ?_
  refine k_istore_n hK (L' := [some (.ref 1), some (.int _), some (.int _), none]) ti_14_1 rfl ?_
  refine k_iconst hK ti_14_2 kI_0 ?_
  refine k_istore_n hK (L' := [some (.ref 1), some (.int _), some (.int _), some (.int _)]) ti_14_3 rfl ?_
  have loop : ∀ (f i : Nat), i ≤ 20 → 20 - i < f → K 4 [some (.ref 1), some (.int (nI a)), some (.int (nI (cnt i (fun x => decide (0 < tm s a x))))), some (.int (nI i))] [] n 0 0 M o := by
    intro f
    induction f with
    | zero => intro i h1 h2; omega
    | succ f ih =>
      intro i h1 h2
      refine k_iload_n hK ti_14_4 rfl ?_
      refine k_bipush hK ti_14_5 kB_20 ?_
      refine kn_ge hK (by omega) (by omega) ti_14_7 jt_7_23 (fun c_7 => ?_) (fun c_7 => ?_)
      · have htm := tm_le hC.w ha i
        refine k_aload_n hK ti_14_10 rfl ?_
        refine k_get hK ti_14_11 ow_14 fd_2_23 (by omega) rfl rfl ?_
        refine k_iload_n hK ti_14_14 rfl ?_
        refine k_aald9 hK a ti_14_15 (by omega) rfl (by omega) ?_
        refine k_iload_n hK ti_14_16 rfl ?_
        refine k_ialdv (v := (nI (tm s a i))) hK i ti_14_17 (dp_isA_t _ (by omega)) (by omega) (by omega) rfl (by rw [dpl_43 _ (by omega)]; omega) (hC.tm a i (by omega) (by omega)) ?_
        refine kz_le hK (by omega) ti_14_18 jt_18_6 (fun c_18 => ?_) (fun c_18 => ?_)
        · refine k_iinc hK (L' := [some (.ref 1), some (.int _), some (.int (nI (cnt (i + 1) (fun x => decide (0 < tm s a x))))), some (.int _)]) ti_14_21 rfl (by rw [cnt_t (by simp [c_18]), kI_1, nI_add]) rfl ?_
          refine k_iinc hK (L' := [some (.ref 1), some (.int _), some (.int _), some (.int (nI (i + 1)))]) ti_14_24 rfl (by rw [kI_1, nI_add]) rfl ?_
          refine k_goto hK ti_14_27 jt_27_m23 ?_
          exact ih (i + 1) (by omega) (by omega) 
        · · rw [← (cnt_f (by simp [c_18]) : cnt (i + 1) (fun x => decide (0 < tm s a x)) = cnt i (fun x => decide (0 < tm s a x)))]
            refine k_iinc hK (L' := [some (.ref 1), some (.int _), some (.int _), some (.int (nI (i + 1)))]) ti_14_24 rfl (by rw [kI_1, nI_add]) rfl ?_
            refine k_goto hK ti_14_27 jt_27_m23 ?_
            exact ih (i + 1) (by omega) (by omega) 
      · obtain rfl : i = 20 := by omega
        refine k_iload_n hK ti_14_30 rfl ?_
        refine k_ireturn hK ti_14_31 rk_14 mc_14 ms_14 (Nat.le_of_ble_eq_true rfl) (Nat.le_of_ble_eq_true rfl) ?_
        exact h
  exact loop (20 - 0 + 1) 0 (by omega) (by omega) 

set_option maxRecDepth 100000 in
set_option maxHeartbeats 4000000 in
theorem sp_X2_stemsInAll {X : dp_X} {d n : Nat} {M : dp_M} {o : dp_O} {Q : dp_Q} (h65 : 65 ≤ n) {s : GSt} (hC : CG M s) (h : Q (.inl (some (.int (nI (dfs s))))) M o) : dp_run X (d + 0 + 1) 15 [.ref 1] n M o Q := by
  apply k_run
  intro K hK
  rw [mL_15]
  show K 0 [some (.ref 1), none, none] [] n 0 0 M o
  have hA16 := hC.w.1
  have hC6 := hC.w.2.1
  refine k_iconst hK ti_15_0 kI_0 ?_
  refine k_istore_n hK (L' := [some (.ref 1), some (.int _), none]) ti_15_1 rfl ?_
  refine k_iconst hK ti_15_2 kI_0 ?_
  refine k_istore_n hK (L' := [some (.ref 1), some (.int _), some (.int _)]) ti_15_3 rfl ?_
  have loop : ∀ (f i : Nat), i ≤ 20 → 20 - i < f → K 4 [some (.ref 1), some (.int (nI (cnt i (fun x => decide (0 < hvn s x))))), some (.int (nI i))] [] n 0 0 M o := by
    intro f
    induction f with
    | zero => intro i h1 h2; omega
    | succ f ih =>
      intro i h1 h2
      refine k_iload_n hK ti_15_4 rfl ?_
      refine k_bipush hK ti_15_5 kB_20 ?_
      refine kn_ge hK (by omega) (by omega) ti_15_7 jt_7_21 (fun c_7 => ?_) (fun c_7 => ?_)
      · have hh := hvn_le hC.w i
        refine k_aload_n hK ti_15_10 rfl ?_
        refine k_get hK ti_15_11 ow_15 fd_2_26 (by omega) rfl rfl ?_
        refine k_iload_n hK ti_15_14 rfl ?_
        refine k_ialdv (v := (nI (hvn s i))) hK i ti_15_15 rfl (by omega) (by omega) rfl (by rw [dpl_10]; omega) (hC.hv i (by omega)) ?_
        refine kz_le hK (by omega) ti_15_16 jt_16_6 (fun c_16 => ?_) (fun c_16 => ?_)
        · refine k_iinc hK (L' := [some (.ref 1), some (.int (nI (cnt (i + 1) (fun x => decide (0 < hvn s x))))), some (.int _)]) ti_15_19 rfl (by rw [cnt_t (by simp [c_16]), kI_1, nI_add]) rfl ?_
          refine k_iinc hK (L' := [some (.ref 1), some (.int _), some (.int (nI (i + 1)))]) ti_15_22 rfl (by rw [kI_1, nI_add]) rfl ?_
          refine k_goto hK ti_15_25 jt_25_m21 ?_
          exact ih (i + 1) (by omega) (by omega) 
        · · rw [← (cnt_f (by simp [c_16]) : cnt (i + 1) (fun x => decide (0 < hvn s x)) = cnt i (fun x => decide (0 < hvn s x)))]
            refine k_iinc hK (L' := [some (.ref 1), some (.int _), some (.int (nI (i + 1)))]) ti_15_22 rfl (by rw [kI_1, nI_add]) rfl ?_
            refine k_goto hK ti_15_25 jt_25_m21 ?_
            exact ih (i + 1) (by omega) (by omega) 
      · obtain rfl : i = 20 := by omega
        refine k_iload_n hK ti_15_28 rfl ?_
        refine k_ireturn hK ti_15_29 rk_15 mc_15 ms_15 (Nat.le_of_ble_eq_true rfl) (Nat.le_of_ble_eq_true rfl) ?_
        exact h
  exact loop (20 - 0 + 1) 0 (by omega) (by omega) 

set_option maxRecDepth 100000 in
set_option maxHeartbeats 4000000 in
theorem sp_X2_wordsInAll {X : dp_X} {d n : Nat} {M : dp_M} {o : dp_O} {Q : dp_Q} (h65 : 65 ≤ n) {s : GSt} (hC : CG M s) (h : Q (.inl (some (.int (nI (wds s))))) M o) : dp_run X (d + 0 + 1) 16 [.ref 1] n M o Q := by
  apply k_run
  intro K hK
  rw [mL_16]
  show K 0 [some (.ref 1), none, none] [] n 0 0 M o
  have hA16 := hC.w.1
  have hC6 := hC.w.2.1
  refine k_iconst hK ti_16_0 kI_0 ?_
  refine k_istore_n hK (L' := [some (.ref 1), some (.int _), none]) ti_16_1 rfl ?_
  refine k_iconst hK ti_16_2 kI_0 ?_
  refine k_istore_n hK (L' := [some (.ref 1), some (.int _), some (.int _)]) ti_16_3 rfl ?_
  have loop : ∀ (f i : Nat), i ≤ (g_nA s) → (g_nA s) - i < f → K 4 [some (.ref 1), some (.int (nI (sN i (g_len s)))), some (.int (nI i))] [] n 0 0 M o := by
    intro f
    induction f with
    | zero => intro i h1 h2; omega
    | succ f ih =>
      intro i h1 h2
      refine k_iload_n hK ti_16_4 rfl ?_
      refine k_aload_n hK ti_16_5 rfl ?_
      refine k_geti hK (nI (g_nA s)) ti_16_6 ow_16 fd_2_35 (by omega) rfl rfl hC.nA ?_
      refine kn_ge hK (by omega) (by omega) ti_16_9 jt_9_18 (fun c_9 => ?_) (fun c_9 => ?_)
      · refine k_iload_n hK ti_16_12 rfl ?_
        refine k_aload_n hK ti_16_13 rfl ?_
        refine k_get hK ti_16_14 ow_16 fd_2_20 (by omega) rfl rfl ?_
        refine k_iload_n hK ti_16_17 rfl ?_
        refine k_ialdv (v := (nI (g_len s i))) hK i ti_16_18 rfl (by omega) (by omega) rfl (by rw [dpl_8]; omega) (hC.len i (by omega)) ?_
        refine k_iadd hK (z := (nI (sN (i + 1) (g_len s)))) ti_16_19 (nI_add _ _) ?_
        refine k_istore_n hK (L' := [some (.ref 1), some (.int _), some (.int _)]) ti_16_20 rfl ?_
        refine k_iinc hK (L' := [some (.ref 1), some (.int _), some (.int (nI (i + 1)))]) ti_16_21 rfl (by rw [kI_1, nI_add]) rfl ?_
        refine k_goto hK ti_16_24 jt_24_m20 ?_
        exact ih (i + 1) (by omega) (by omega) 
      · obtain rfl : i = (g_nA s) := by omega
        refine k_iload_n hK ti_16_27 rfl ?_
        refine k_ireturn hK ti_16_28 rk_16 mc_16 ms_16 (Nat.le_of_ble_eq_true rfl) (Nat.le_of_ble_eq_true rfl) ?_
        exact h
  exact loop ((g_nA s) - 0 + 1) 0 (by omega) (by omega) 


set_option maxRecDepth 100000 in
set_option maxHeartbeats 4000000 in
theorem sp_X1_placeOf {X : dp_X} {d n : Nat} {M : dp_M} {o : dp_O} {Q : dp_Q} (h65 : 65 ≤ n) {s : GSt} (c x : Nat) (hC : CG M s) (hc : c < 6) (hx : x < 20) (h : Q (.inl (some (.int (oI (wsh s c x))))) M o) : dp_run X (d + 0 + 1) 7 [.ref 2, .int (nI c), .int (nI x)] n M o Q := by
  apply k_run
  intro K hK
  rw [mL_7]
  show K 0 [some (.ref 2), some (.int (nI c)), some (.int (nI x)), none] [] n 0 0 M o
  have hA16 := hC.w.1
  have hC6 := hC.w.2.1
  have hm5 := hC.w.2.2.2.2.2.1 c hc
  refine k_iconst hK ti_7_0 kI_0 ?_
  refine k_istore_n hK (L' := [some (.ref 2), some (.int _), some (.int _), some (.int _)]) ti_7_1 rfl ?_
  have loop : ∀ (f i : Nat), i ≤ (g_many s c) → (g_many s c) - i < f → (∀ k, k < i → (g_wish s c k == x) = false) → K 2 [some (.ref 2), some (.int (nI c)), some (.int (nI x)), some (.int (nI i))] [] n 0 0 M o := by
    intro f
    induction f with
    | zero => intro i h1 h2; omega
    | succ f ih =>
      intro i h1 h2 h3
      refine k_iload_n hK ti_7_2 rfl ?_
      refine k_aload_n hK ti_7_3 rfl ?_
      refine k_get hK ti_7_4 ow_7 fd_1_16 (by omega) rfl rfl ?_
      refine k_iload_n hK ti_7_7 rfl ?_
      refine k_ialdv (v := (nI (g_many s c))) hK c ti_7_8 rfl (by omega) (by omega) rfl (by rw [dpl_12]; omega) (hC.many c (by omega)) ?_
      refine kn_ge hK (by omega) (by omega) ti_7_9 jt_9_23 (fun c_9 => ?_) (fun c_9 => ?_)
      · have hw20 := hC.w.2.2.2.2.2.2 c i (by omega) c_9
        refine k_aload_n hK ti_7_12 rfl ?_
        refine k_get hK ti_7_13 ow_7 fd_1_11 (by omega) rfl rfl ?_
        refine k_iload_n hK ti_7_16 rfl ?_
        refine k_aald11 hK c ti_7_17 (by omega) rfl (by omega) ?_
        refine k_iload_n hK ti_7_18 rfl ?_
        refine k_ialdv (v := (nI (g_wish s c i))) hK i ti_7_19 (dp_isA_t _ (by omega)) (by omega) (by omega) rfl (by rw [dpl_59 _ (by omega)]; omega) (hC.wish c i (by omega) (by omega)) ?_
        refine k_iload_n hK ti_7_20 rfl ?_
        refine kn_ne hK (by omega) (by omega) ti_7_21 jt_21_5 (fun c_21 => ?_) (fun c_21 => ?_)
        · have e : wsh s c x = some i := frst_hit c_9 (by simp [*]) h3
          rw [e] at h
          refine k_iload_n hK ti_7_24 rfl ?_
          refine k_ireturn hK ti_7_25 rk_7 mc_7 ms_7 (Nat.le_of_ble_eq_true rfl) (Nat.le_of_ble_eq_true rfl) ?_
          exact h
        · refine k_iinc hK (L' := [some (.ref 2), some (.int _), some (.int _), some (.int (nI (i + 1)))]) ti_7_26 rfl (by rw [kI_1, nI_add]) rfl ?_
          refine k_goto hK ti_7_29 jt_29_m27 ?_
          exact ih (i + 1) (by omega) (by omega) (fun k hk => by by_cases e : k = i; (subst e; simp [*]); exact h3 k (by omega))
      · obtain rfl : i = (g_many s c) := by omega
        have e : wsh s c x = none := frst_none h3
        rw [e] at h
        refine k_iconst hK ti_7_32 kI_m1 ?_
        refine k_ireturn hK ti_7_33 rk_7 mc_7 ms_7 (Nat.le_of_ble_eq_true rfl) (Nat.le_of_ble_eq_true rfl) ?_
        exact h
  exact loop ((g_many s c) - 0 + 1) 0 (by omega) (by omega) (fun k hk => absurd hk (by omega))

set_option maxRecDepth 100000 in
set_option maxHeartbeats 4000000 in
theorem sp_X2_scoreOf {X : dp_X} {d n : Nat} {M : dp_M} {o : dp_O} {Q : dp_Q} (h65 : 65 ≤ n) {s : GSt} (a hd : Nat) (w : Nat → Nat) (k : Nat) (age : Int32) (hC : CG M s) (ha : a < 16) (hh : hd < 65) (hA : dp_isA hd = true) (hk : k ≤ 5) (hl : k ≤ dp_len hd) (hw : ∀ i, i < k → M hd i = nI (w i) ∧ w i < 20) (h : Q (.inl (some (.int (scw s w k a age)))) M o) : dp_run X (d + 1 + 1) 13 [.ref 1, .int (nI a), .ref hd, .int (nI k), .int age] n M o Q := by
  apply k_run
  intro K hK
  rw [mL_13]
  show K 0 [some (.ref 1), some (.int (nI a)), some (.ref hd), some (.int (nI k)), some (.int age), none, none, none, none] [] n 0 0 M o
  have hA16 := hC.w.1
  have hC6 := hC.w.2.1
  refine k_iconst hK ti_13_0 kI_0 ?_
  refine k_istore hK (L' := [some (.ref 1), some (.int _), some (.ref hd), some (.int _), some (.int _), some (.int _), none, none, none]) ti_13_1 rfl ?_
  refine k_iconst hK ti_13_3 kI_0 ?_
  refine k_istore hK (L' := [some (.ref 1), some (.int _), some (.ref hd), some (.int _), some (.int _), some (.int _), some (.int _), none, none]) ti_13_4 rfl ?_
  refine k_iconst hK ti_13_6 kI_0 ?_
  refine k_istore hK (L' := [some (.ref 1), some (.int _), some (.ref hd), some (.int _), some (.int _), some (.int _), some (.int _), some (.int _), none]) ti_13_7 rfl ?_
  have loop : ∀ (f i : Nat) (u : Option Value), i ≤ k → k - i < f → K 9 [some (.ref 1), some (.int (nI a)), some (.ref hd), some (.int (nI k)), some (.int age), some (.int (nI (pts s w i a))), some (.int (nI (fnd s w i a))), some (.int (nI i)), u] [] n 0 0 M o := by
    intro f
    induction f with
    | zero => intro i u h1 h2; omega
    | succ f ih =>
      intro i u h1 h2
      have hp := pts_le hC.w w i a
      have hfn : fnd s w i a ≤ i := cnt_le _ _
      refine k_iload hK ti_13_9 rfl ?_
      refine k_iload_n hK ti_13_11 rfl ?_
      refine kn_ge hK (by omega) (by omega) ti_13_12 jt_12_48 (fun c_12 => ?_) (fun c_12 => ?_)
      · have hw20 := (hw i c_12).2
        have htm := tm_le hC.w ha (w i)
        have hrr := rar_le hC.w (w i)
        refine k_aload_n hK ti_13_15 rfl ?_
        refine k_iload_n hK ti_13_16 rfl ?_
        refine k_aload_n hK ti_13_17 rfl ?_
        refine k_iload hK ti_13_18 rfl ?_
        refine k_ialdv (v := (nI (w i))) hK i ti_13_20 hA (by omega) (by omega) rfl (by omega) (hw i c_12).1 ?_
        refine k_callV hK (as := [.int _, .int _]) (st' := []) ti_13_21 ow_13 iv_2_47 mc_13 ms_13 rfl rfl (by omega) (Nat.le_of_ble_eq_true rfl) (Nat.le_of_ble_eq_true rfl) (Nat.le_of_ble_eq_true rfl) (Nat.le_of_ble_eq_true rfl) (by omega) rfl ?_
        refine sp_X2_timesOf (by omega) a (w i) hC (by omega) (by omega) ?_
        refine k_istore hK (L' := [some (.ref 1), some (.int _), some (.ref hd), some (.int _), some (.int _), some (.int _), some (.int _), some (.int _), some (.int _)]) ti_13_24 rfl ?_
        refine k_iload hK ti_13_26 rfl ?_
        refine kz_le hK (by omega) ti_13_28 jt_28_26 (fun c_28 => ?_) (fun c_28 => ?_)
        · refine k_iinc hK (L' := [some (.ref 1), some (.int _), some (.ref hd), some (.int _), some (.int _), some (.int _), some (.int (nI (fnd s w (i + 1) a))), some (.int _), some (.int _)]) ti_13_31 rfl (by rw [kI_1, nI_add, show fnd s w (i + 1) a = _ from cnt_t (by simp [c_28])]; rfl) rfl ?_
          refine k_iload hK ti_13_34 rfl ?_
          refine k_iload hK ti_13_36 rfl ?_
          refine k_iconst hK ti_13_38 kI_3 ?_
          refine k_minv hK (nI (min 3 (tm s a (w i)))) ti_13_39 ow_13 nt_2_51 mc_13 ms_13 (Nat.le_of_ble_eq_true rfl) (Nat.le_of_ble_eq_true rfl) (Nat.le_of_ble_eq_true rfl) (by rw [nI_min (by omega) (by omega), Nat.min_comm]) ?_
          refine k_aload_n hK ti_13_42 rfl ?_
          refine k_aload_n hK ti_13_43 rfl ?_
          refine k_iload hK ti_13_44 rfl ?_
          refine k_ialdv (v := (nI (w i))) hK i ti_13_46 hA (by omega) (by omega) rfl (by omega) (hw i c_12).1 ?_
          refine k_callV hK (as := [.int _]) (st' := [.int _, .int _]) ti_13_47 ow_13 iv_2_56 mc_13 ms_13 rfl rfl (by omega) (Nat.le_of_ble_eq_true rfl) (Nat.le_of_ble_eq_true rfl) (Nat.le_of_ble_eq_true rfl) (Nat.le_of_ble_eq_true rfl) (by omega) rfl ?_
          refine sp_X2_rarityOf (by omega) (w i) hC (by omega) ?_
          refine k_imul hK (z := (nI ((min 3 (tm s a (w i))) * (rar s (w i))))) ti_13_50 (pk_mul _ _) ?_
          refine k_iadd hK (z := (nI (pts s w (i + 1) a))) ti_13_51 (nI_add _ _) ?_
          refine k_istore hK (L' := [some (.ref 1), some (.int _), some (.ref hd), some (.int _), some (.int _), some (.int _), some (.int _), some (.int _), some (.int _)]) ti_13_52 rfl ?_
          refine k_iinc hK (L' := [some (.ref 1), some (.int _), some (.ref hd), some (.int _), some (.int _), some (.int _), some (.int _), some (.int (nI (i + 1))), some (.int _)]) ti_13_54 rfl (by rw [kI_1, nI_add]) rfl ?_
          refine k_goto hK ti_13_57 jt_57_m48 ?_
          exact ih (i + 1) _ (by omega) (by omega) 
        · have e3 : fnd s w (i + 1) a = fnd s w i a := cnt_f (by simp [c_28])
          have e4 : pts s w (i + 1) a = pts s w i a := by show pts s w i a + min 3 (tm s a (w i)) * rar s (w i) = _; rw [show tm s a (w i) = 0 by omega]; simp
          rw [← e3, ← e4]
          refine k_iinc hK (L' := [some (.ref 1), some (.int _), some (.ref hd), some (.int _), some (.int _), some (.int _), some (.int _), some (.int (nI (i + 1))), some (.int _)]) ti_13_54 rfl (by rw [kI_1, nI_add]) rfl ?_
          refine k_goto hK ti_13_57 jt_57_m48 ?_
          exact ih (i + 1) _ (by omega) (by omega) 
      · obtain rfl : i = k := by omega
        have hp2 : pt2 s w i a = if 2 ≤ i ∧ fnd s w i a = i then pts s w i a + pts s w i a / 2 else pts s w i a := rfl
        refine k_iload_n hK ti_13_60 rfl ?_
        refine k_iconst hK ti_13_61 kI_2 ?_
        refine kn_lt hK (by omega) (by omega) ti_13_62 jt_62_18 (fun c_62 => ?_) (fun c_62 => ?_)
        · have e3 : pts s w i a = pt2 s w i a := by rw [hp2, if_neg (by omega)]
          rw [e3]
          refine k_iload hK ti_13_80 rfl ?_
          refine k_iconst hK ti_13_82 kI_3 ?_
          refine k_iload hK ti_13_83 rfl ?_
          refine k_imul hK ti_13_85 rfl ?_
          refine k_isub hK ti_13_86 rfl ?_
          refine k_iconst hK ti_13_87 kI_0 ?_
          refine k_maxv hK (scw s w i a age) ti_13_88 ow_13 nt_2_59 mc_13 ms_13 (Nat.le_of_ble_eq_true rfl) (Nat.le_of_ble_eq_true rfl) (Nat.le_of_ble_eq_true rfl) rfl ?_
          refine k_ireturn hK ti_13_91 rk_13 mc_13 ms_13 (Nat.le_of_ble_eq_true rfl) (Nat.le_of_ble_eq_true rfl) ?_
          exact h
        · refine k_iload hK ti_13_65 rfl ?_
          refine k_iload_n hK ti_13_67 rfl ?_
          refine kn_ne hK (by omega) (by omega) ti_13_68 jt_68_12 (fun c_68 => ?_) (fun c_68 => ?_)
          · refine k_iload hK ti_13_71 rfl ?_
            refine k_iload hK ti_13_73 rfl ?_
            refine k_iconst hK ti_13_75 kI_2 ?_
            refine k_idiv hK (z := (nI (pts s w i a / 2))) ti_13_76 (by decide) (pk_div (by omega) (by omega) (by omega)) ?_
            refine k_iadd hK (z := (nI (pt2 s w i a))) ti_13_77 (by rw [hp2, if_pos (by omega), nI_add]) ?_
            refine k_istore hK (L' := [some (.ref 1), some (.int _), some (.ref hd), some (.int _), some (.int _), some (.int _), some (.int _), some (.int _), u]) ti_13_78 rfl ?_
            refine k_iload hK ti_13_80 rfl ?_
            refine k_iconst hK ti_13_82 kI_3 ?_
            refine k_iload hK ti_13_83 rfl ?_
            refine k_imul hK ti_13_85 rfl ?_
            refine k_isub hK ti_13_86 rfl ?_
            refine k_iconst hK ti_13_87 kI_0 ?_
            refine k_maxv hK (scw s w i a age) ti_13_88 ow_13 nt_2_59 mc_13 ms_13 (Nat.le_of_ble_eq_true rfl) (Nat.le_of_ble_eq_true rfl) (Nat.le_of_ble_eq_true rfl) rfl ?_
            refine k_ireturn hK ti_13_91 rk_13 mc_13 ms_13 (Nat.le_of_ble_eq_true rfl) (Nat.le_of_ble_eq_true rfl) ?_
            exact h
          · have e3 : pts s w i a = pt2 s w i a := by rw [hp2, if_neg (by omega)]
            rw [e3]
            refine k_iload hK ti_13_80 rfl ?_
            refine k_iconst hK ti_13_82 kI_3 ?_
            refine k_iload hK ti_13_83 rfl ?_
            refine k_imul hK ti_13_85 rfl ?_
            refine k_isub hK ti_13_86 rfl ?_
            refine k_iconst hK ti_13_87 kI_0 ?_
            refine k_maxv hK (scw s w i a age) ti_13_88 ow_13 nt_2_59 mc_13 ms_13 (Nat.le_of_ble_eq_true rfl) (Nat.le_of_ble_eq_true rfl) (Nat.le_of_ble_eq_true rfl) rfl ?_
            refine k_ireturn hK ti_13_91 rk_13 mc_13 ms_13 (Nat.le_of_ble_eq_true rfl) (Nat.le_of_ble_eq_true rfl) ?_
            exact h
  exact loop (k - 0 + 1) 0 _ (by omega) (by omega) 
