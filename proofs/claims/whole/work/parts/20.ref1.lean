/-! The reference: reading methods. (written by wip/whole/ref1.py) -/
set_option maxRecDepth 100000 in
set_option maxHeartbeats 4000000 in
theorem sp_X4_isIn {X : dp_X} {d n : Nat} {M : dp_M} {o : Int64} {Q : dp_Q} (h65 : 65 ≤ n) (v lo hi : Int32) (h : Q (.inl (some (.int (bl (isin v lo hi))))) M o) : dp_run X (d + 0 + 1) 70 [.int v, .int lo, .int hi] n M o Q := by
  apply k_run
  intro K hK
  rw [mL_70]
  show K 0 [some (.int v), some (.int lo), some (.int hi)] [] n 0 0 M o
  refine k_iload_n hK ti_70_0 rfl ?_
  refine k_iload_n hK ti_70_1 rfl ?_
  refine k_icmp_lt hK ti_70_2 jt_2_12 (fun c_2 => ?_) (fun c_2 => ?_)
  · have e9 : isin v lo hi = false := by simp [isin, c_2]
    rw [e9] at h
    refine k_iconst hK ti_70_14 kI_0 ?_
    refine k_zreturn hK ti_70_15 rk_70 mc_70 ms_70 (Nat.le_of_ble_eq_true rfl) (Nat.le_of_ble_eq_true rfl) (by decide) ?_
    exact h
  · refine k_iload_n hK ti_70_5 rfl ?_
    refine k_iload_n hK ti_70_6 rfl ?_
    refine k_icmp_gt hK ti_70_7 jt_7_7 (fun c_7 => ?_) (fun c_7 => ?_)
    · have e9 : isin v lo hi = false := by simp [isin, c_2, c_7]
      rw [e9] at h
      refine k_iconst hK ti_70_14 kI_0 ?_
      refine k_zreturn hK ti_70_15 rk_70 mc_70 ms_70 (Nat.le_of_ble_eq_true rfl) (Nat.le_of_ble_eq_true rfl) (by decide) ?_
      exact h
    · have e9 : isin v lo hi = true := by simp [isin, c_2, c_7]
      rw [e9] at h
      refine k_iconst hK ti_70_10 kI_1 ?_
      refine k_goto hK ti_70_11 jt_11_4 ?_
      refine k_zreturn hK ti_70_15 rk_70 mc_70 ms_70 (Nat.le_of_ble_eq_true rfl) (Nat.le_of_ble_eq_true rfl) (by decide) ?_
      exact h

set_option maxRecDepth 100000 in
set_option maxHeartbeats 4000000 in
theorem sp_X4_isArticle {X : dp_X} {d n : Nat} {M : dp_M} {o : Int64} {Q : dp_Q} (h65 : 65 ≤ n) {s : GSt} (x : Int32) (hG : RG M s) (h : Q (.inl (some (.int (bl ((ix (g_nA s) x).isSome))))) M o) : dp_run X (d + 1 + 1) 71 [.ref 22, .int x] n M o Q := by
  apply k_run
  intro K hK
  rw [mL_71]
  show K 0 [some (.ref 22), some (.int x)] [] n 0 0 M o
  refine k_iload_n hK ti_71_0 rfl ?_
  refine k_iconst hK ti_71_1 kI_0 ?_
  refine k_aload_n hK ti_71_2 rfl ?_
  refine k_geti hK (nI (g_nA s)) ti_71_3 ow_71 fd_4_23 (by omega) rfl rfl hG.2.1 ?_
  refine k_iconst hK ti_71_6 kI_1 ?_
  refine k_isub hK (z := (nI (g_nA s) - nI 1)) ti_71_7 rfl ?_
  refine k_callS hK (as := [.int _, .int _, .int _]) (st' := []) ti_71_8 ow_71 iv_4_26 mc_71 ms_71 rfl rfl (by omega) (Nat.le_of_ble_eq_true rfl) (Nat.le_of_ble_eq_true rfl) (Nat.le_of_ble_eq_true rfl) (Nat.le_of_ble_eq_true rfl) ?_
  refine sp_X4_isIn (by omega) _ _ _ (k_aftv (bl ((ix (g_nA s) x).isSome)) (congrArg bl (isin_ix (by have := hG.1.1; omega))) ?_)
  refine k_zreturn hK ti_71_11 rk_71 mc_71 ms_71 (Nat.le_of_ble_eq_true rfl) (Nat.le_of_ble_eq_true rfl) (bl_01 _) ?_
  exact h

set_option maxRecDepth 100000 in
set_option maxHeartbeats 4000000 in
theorem sp_X4_isClient {X : dp_X} {d n : Nat} {M : dp_M} {o : Int64} {Q : dp_Q} (h65 : 65 ≤ n) {s : GSt} (x : Int32) (hG : RG M s) (h : Q (.inl (some (.int (bl ((ix (g_nC s) x).isSome))))) M o) : dp_run X (d + 1 + 1) 72 [.ref 22, .int x] n M o Q := by
  apply k_run
  intro K hK
  rw [mL_72]
  show K 0 [some (.ref 22), some (.int x)] [] n 0 0 M o
  refine k_iload_n hK ti_72_0 rfl ?_
  refine k_iconst hK ti_72_1 kI_0 ?_
  refine k_aload_n hK ti_72_2 rfl ?_
  refine k_geti hK (nI (g_nC s)) ti_72_3 ow_72 fd_4_30 (by omega) rfl rfl hG.2.2.1 ?_
  refine k_iconst hK ti_72_6 kI_1 ?_
  refine k_isub hK (z := (nI (g_nC s) - nI 1)) ti_72_7 rfl ?_
  refine k_callS hK (as := [.int _, .int _, .int _]) (st' := []) ti_72_8 ow_72 iv_4_26 mc_72 ms_72 rfl rfl (by omega) (Nat.le_of_ble_eq_true rfl) (Nat.le_of_ble_eq_true rfl) (Nat.le_of_ble_eq_true rfl) (Nat.le_of_ble_eq_true rfl) ?_
  refine sp_X4_isIn (by omega) _ _ _ (k_aftv (bl ((ix (g_nC s) x).isSome)) (congrArg bl (isin_ix (by have := hG.1.2.1; omega))) ?_)
  refine k_zreturn hK ti_72_11 rk_72 mc_72 ms_72 (Nat.le_of_ble_eq_true rfl) (Nat.le_of_ble_eq_true rfl) (bl_01 _) ?_
  exact h

set_option maxRecDepth 100000 in
set_option maxHeartbeats 4000000 in
theorem sp_X4_isStem {X : dp_X} {d n : Nat} {M : dp_M} {o : Int64} {Q : dp_Q} (h65 : 65 ≤ n) (x : Int32) (h : Q (.inl (some (.int (bl ((ix 20 x).isSome))))) M o) : dp_run X (d + 1 + 1) 73 [.int x] n M o Q := by
  apply k_run
  intro K hK
  rw [mL_73]
  show K 0 [some (.int x)] [] n 0 0 M o
  refine k_iload_n hK ti_73_0 rfl ?_
  refine k_iconst hK ti_73_1 kI_0 ?_
  refine k_bipush hK ti_73_2 kB_19 ?_
  refine k_callS hK (as := [.int _, .int _, .int _]) (st' := []) ti_73_4 ow_73 iv_4_26 mc_73 ms_73 rfl rfl (by omega) (Nat.le_of_ble_eq_true rfl) (Nat.le_of_ble_eq_true rfl) (Nat.le_of_ble_eq_true rfl) (Nat.le_of_ble_eq_true rfl) ?_
  refine sp_X4_isIn (by omega) _ _ _ (k_aftv (bl ((ix 20 x).isSome)) (congrArg bl (isin_ixc (by decide) (by decide))) ?_)
  refine k_zreturn hK ti_73_7 rk_73 mc_73 ms_73 (Nat.le_of_ble_eq_true rfl) (Nat.le_of_ble_eq_true rfl) (bl_01 _) ?_
  exact h

set_option maxRecDepth 100000 in
set_option maxHeartbeats 4000000 in
theorem sp_X4_isWord {X : dp_X} {d n : Nat} {M : dp_M} {o : Int64} {Q : dp_Q} (h65 : 65 ≤ n) (x : Int32) (h : Q (.inl (some (.int (bl ((ix 40 x).isSome))))) M o) : dp_run X (d + 1 + 1) 74 [.int x] n M o Q := by
  apply k_run
  intro K hK
  rw [mL_74]
  show K 0 [some (.int x)] [] n 0 0 M o
  refine k_iload_n hK ti_74_0 rfl ?_
  refine k_iconst hK ti_74_1 kI_0 ?_
  refine k_bipush hK ti_74_2 kB_39 ?_
  refine k_callS hK (as := [.int _, .int _, .int _]) (st' := []) ti_74_4 ow_74 iv_4_26 mc_74 ms_74 rfl rfl (by omega) (Nat.le_of_ble_eq_true rfl) (Nat.le_of_ble_eq_true rfl) (Nat.le_of_ble_eq_true rfl) (Nat.le_of_ble_eq_true rfl) ?_
  refine sp_X4_isIn (by omega) _ _ _ (k_aftv (bl ((ix 40 x).isSome)) (congrArg bl (isin_ixc (by decide) (by decide))) ?_)
  refine k_zreturn hK ti_74_7 rk_74 mc_74 ms_74 (Nat.le_of_ble_eq_true rfl) (Nat.le_of_ble_eq_true rfl) (bl_01 _) ?_
  exact h

set_option maxRecDepth 100000 in
set_option maxHeartbeats 4000000 in
theorem sp_X4_ar {X : dp_X} {d n : Nat} {M : dp_M} {o : Int64} {Q : dp_Q} (h65 : 65 ≤ n) (a w : Nat) (ha : a < 16) (hw : w < 14) (h : Q (.inl (some (.int (M 24 (14 * a + w))))) M o) : dp_run X (d + 0 + 1) 75 [.ref 22, .int (nI a), .int (nI w)] n M o Q := by
  apply k_run
  intro K hK
  rw [mL_75]
  show K 0 [some (.ref 22), some (.int (nI a)), some (.int (nI w))] [] n 0 0 M o
  refine k_aload_n hK ti_75_0 rfl ?_
  refine k_get hK ti_75_1 ow_75 fd_4_13 (by omega) rfl rfl ?_
  refine k_bipush hK ti_75_4 kB_14 ?_
  refine k_iload_n hK ti_75_6 rfl ?_
  refine k_imul hK (z := (nI (14 * a))) ti_75_7 (pk_mul _ _) ?_
  refine k_iload_n hK ti_75_8 rfl ?_
  refine k_iadd hK (z := (nI (14 * a + w))) ti_75_9 (nI_add _ _) ?_
  refine k_iald hK (14 * a + w) ti_75_10 rfl (by omega) (by omega) rfl (by rw [dpl_24]; omega) ?_
  refine k_ireturn hK ti_75_11 rk_75 mc_75 ms_75 (Nat.le_of_ble_eq_true rfl) (Nat.le_of_ble_eq_true rfl) ?_
  exact h

set_option maxRecDepth 100000 in
set_option maxHeartbeats 4000000 in
theorem sp_X4_cl {X : dp_X} {d n : Nat} {M : dp_M} {o : Int64} {Q : dp_Q} (h65 : 65 ≤ n) (a w : Nat) (ha : a < 6) (hw : w < 10) (h : Q (.inl (some (.int (M 25 (10 * a + w))))) M o) : dp_run X (d + 0 + 1) 76 [.ref 22, .int (nI a), .int (nI w)] n M o Q := by
  apply k_run
  intro K hK
  rw [mL_76]
  show K 0 [some (.ref 22), some (.int (nI a)), some (.int (nI w))] [] n 0 0 M o
  refine k_aload_n hK ti_76_0 rfl ?_
  refine k_get hK ti_76_1 ow_76 fd_4_16 (by omega) rfl rfl ?_
  refine k_bipush hK ti_76_4 kB_10 ?_
  refine k_iload_n hK ti_76_6 rfl ?_
  refine k_imul hK (z := (nI (10 * a))) ti_76_7 (pk_mul _ _) ?_
  refine k_iload_n hK ti_76_8 rfl ?_
  refine k_iadd hK (z := (nI (10 * a + w))) ti_76_9 (nI_add _ _) ?_
  refine k_iald hK (10 * a + w) ti_76_10 rfl (by omega) (by omega) rfl (by rw [dpl_25]; omega) ?_
  refine k_ireturn hK ti_76_11 rk_76 mc_76 ms_76 (Nat.le_of_ble_eq_true rfl) (Nat.le_of_ble_eq_true rfl) ?_
  exact h

set_option maxRecDepth 100000 in
set_option maxHeartbeats 4000000 in
theorem sp_X4_put {X : dp_X} {d n : Nat} {M : dp_M} {o : Int64} {Q : dp_Q} (h65 : 65 ≤ n) (a w : Nat) (x : Int32) (ha : a < 6) (hw : w < 10) (h : Q (.inl none) (dp_up M 25 (10 * a + w) x) o) : dp_run X (d + 0 + 1) 77 [.ref 22, .int (nI a), .int (nI w), .int x] n M o Q := by
  apply k_run
  intro K hK
  rw [mL_77]
  show K 0 [some (.ref 22), some (.int (nI a)), some (.int (nI w)), some (.int x)] [] n 0 0 M o
  refine k_aload_n hK ti_77_0 rfl ?_
  refine k_get hK ti_77_1 ow_77 fd_4_16 (by omega) rfl rfl ?_
  refine k_bipush hK ti_77_4 kB_10 ?_
  refine k_iload_n hK ti_77_6 rfl ?_
  refine k_imul hK (z := (nI (10 * a))) ti_77_7 (pk_mul _ _) ?_
  refine k_iload_n hK ti_77_8 rfl ?_
  refine k_iadd hK (z := (nI (10 * a + w))) ti_77_9 (nI_add _ _) ?_
  refine k_iload_n hK ti_77_10 rfl ?_
  refine k_iast hK (10 * a + w) ti_77_11 rfl (by omega) rfl (by rw [dpl_25]; omega) ?_
  refine k_return hK ti_77_12 rk_77 mc_77 ms_77 (Nat.le_of_ble_eq_true rfl) (Nat.le_of_ble_eq_true rfl) ?_
  exact h

set_option maxRecDepth 100000 in
set_option maxHeartbeats 4000000 in
theorem sp_X4_fail {X : dp_X} {d n : Nat} {M : dp_M} {o : Int64} {Q : dp_Q} (h65 : 65 ≤ n) (x : Int32) (h : Q (.inl (some (.int (nI 0)))) (dp_up M 22 0 x) o) : dp_run X (d + 0 + 1) 69 [.ref 22, .int x] n M o Q := by
  apply k_run
  intro K hK
  rw [mL_69]
  show K 0 [some (.ref 22), some (.int x)] [] n 0 0 M o
  refine k_aload_n hK ti_69_0 rfl ?_
  refine k_iload_n hK ti_69_1 rfl ?_
  refine k_put hK ti_69_2 ow_69 fd_4_19 (by omega) rfl rfl ?_
  refine k_iconst hK ti_69_5 kI_0 ?_
  refine k_ireturn hK ti_69_6 rk_69 mc_69 ms_69 (Nat.le_of_ble_eq_true rfl) (Nat.le_of_ble_eq_true rfl) ?_
  exact h

set_option maxRecDepth 100000 in
set_option maxHeartbeats 4000000 in
theorem sp_X4_thrown {X : dp_X} {d n : Nat} {M : dp_M} {o : Int64} {Q : dp_Q} (h65 : 65 ≤ n) (h : Q (.inl (some (.int (M 22 0)))) M o) : dp_run X (d + 0 + 1) 68 [.ref 22] n M o Q := by
  apply k_run
  intro K hK
  rw [mL_68]
  show K 0 [some (.ref 22)] [] n 0 0 M o
  refine k_aload_n hK ti_68_0 rfl ?_
  refine k_get hK ti_68_1 ow_68 fd_4_19 (by omega) rfl rfl ?_
  refine k_ireturn hK ti_68_4 rk_68 mc_68 ms_68 (Nat.le_of_ble_eq_true rfl) (Nat.le_of_ble_eq_true rfl) ?_
  exact h

set_option maxRecDepth 100000 in
set_option maxHeartbeats 4000000 in
theorem sp_X4_times {X : dp_X} {d n : Nat} {M : dp_M} {o : Int64} {Q : dp_Q} (h65 : 65 ≤ n) {s : GSt} (a x : Nat) (hG : RG M s) (ha : a < 16) (hx : x < 2 ^ 31) (h : Q (.inl (some (.int (nI (tm s a x))))) M o) : dp_run X (d + 1 + 1) 88 [.ref 22, .int (nI a), .int (nI x)] n M o Q := by
  apply k_run
  intro K hK
  rw [mL_88]
  show K 0 [some (.ref 22), some (.int (nI a)), some (.int (nI x)), none, none] [] n 0 0 M o
  have hl := hG.2.2.2.2.1 a ha
  have hl12 := hG.1.2.2.2.1 a ha
  have loop : ∀ (f i : Nat), i ≤ g_len s a → g_len s a - i < f → K 5 [some (.ref 22), some (.int (nI a)), some (.int (nI x)), some (.int (nI (cnt i (fun k => g_st s (g_wd s a k) == x)))), some (.int (nI i))] [] n 0 0 M o := by
    intro f
    induction f with
    | zero => intro i h1 h2; omega
    | succ f ih =>
      intro i h1 h2
      have hcl := cnt_le (fun k => g_st s (g_wd s a k) == x) i
      refine k_iload hK ti_88_5 rfl ?_
      refine k_aload_n hK ti_88_7 rfl ?_
      refine k_iload_n hK ti_88_8 rfl ?_
      refine k_iconst hK ti_88_9 kI_0 ?_
      refine k_callV hK (as := [.int _, .int _]) (st' := [.int _]) ti_88_10 ow_88 iv_4_47 mc_88 ms_88 rfl rfl (by omega) (Nat.le_of_ble_eq_true rfl) (Nat.le_of_ble_eq_true rfl) (Nat.le_of_ble_eq_true rfl) (Nat.le_of_ble_eq_true rfl) (by omega) rfl ?_
      refine sp_X4_ar (by omega) a 0 (by omega) (by omega) (k_aftv ((nI (g_len s a))) (hG.2.2.2.2.1 a (by omega)) ?_)
      refine kn_ge hK (by omega) (by omega) ti_88_13 jt_13_35 (fun c_13 => ?_) (fun c_13 => ?_)
      · have hw40 := hG.1.2.2.2.2.1 a i ha c_13
        have hs20 := hG.1.2.2.1 _ hw40
        refine k_iload_n hK ti_88_16 rfl ?_
        refine k_aload_n hK ti_88_17 rfl ?_
        refine k_get hK ti_88_18 ow_88 fd_4_9 (by omega) rfl rfl ?_
        refine k_aload_n hK ti_88_21 rfl ?_
        refine k_iload_n hK ti_88_22 rfl ?_
        refine k_iconst hK ti_88_23 kI_2 ?_
        refine k_iload hK ti_88_24 rfl ?_
        refine k_iadd hK (z := (nI (2 + i))) ti_88_26 (nI_add _ _) ?_
        refine k_callV hK (as := [.int _, .int _]) (st' := [.ref 23, .int _]) ti_88_27 ow_88 iv_4_47 mc_88 ms_88 rfl rfl (by omega) (Nat.le_of_ble_eq_true rfl) (Nat.le_of_ble_eq_true rfl) (Nat.le_of_ble_eq_true rfl) (Nat.le_of_ble_eq_true rfl) (by omega) rfl ?_
        refine sp_X4_ar (by omega) a (2 + i) (by omega) (by omega) (k_aftv ((nI (g_wd s a i))) (hG.2.2.2.2.2.1 a i (by omega) (by omega)) ?_)
        refine k_ialdv (v := (nI (g_st s (g_wd s a i)))) hK (g_wd s a i) ti_88_30 rfl (by omega) (by omega) rfl (by rw [dpl_23]; omega) (hG.2.2.2.1 _ hw40) ?_
        refine k_iload_n hK ti_88_31 rfl ?_
        refine kn_ne hK (by omega) (by omega) ti_88_32 jt_32_7 (fun c_32 => ?_) (fun c_32 => ?_)
        · refine k_iconst hK ti_88_35 kI_1 ?_
          refine k_goto hK ti_88_36 jt_36_4 ?_
          refine k_iadd hK (z := (nI (cnt (i + 1) (fun k => g_st s (g_wd s a k) == x)))) ti_88_40 (by rw [cnt_t (by simp [c_32]), nI_add]) ?_
          refine k_istore_n hK (L' := [some (.ref 22), some (.int _), some (.int _), some (.int _), some (.int _)]) ti_88_41 rfl ?_
          refine k_iinc hK (L' := [some (.ref 22), some (.int _), some (.int _), some (.int _), some (.int (nI (i + 1)))]) ti_88_42 rfl (by rw [kI_1, nI_add]) rfl ?_
          refine k_goto hK ti_88_45 jt_45_m40 ?_
          exact ih (i + 1) (by omega) (by omega)
        · refine k_iconst hK ti_88_39 kI_0 ?_
          refine k_iadd hK (z := (nI (cnt (i + 1) (fun k => g_st s (g_wd s a k) == x)))) ti_88_40 (by rw [cnt_f (by simp [c_32]), nI_add, Nat.add_zero]) ?_
          refine k_istore_n hK (L' := [some (.ref 22), some (.int _), some (.int _), some (.int _), some (.int _)]) ti_88_41 rfl ?_
          refine k_iinc hK (L' := [some (.ref 22), some (.int _), some (.int _), some (.int _), some (.int (nI (i + 1)))]) ti_88_42 rfl (by rw [kI_1, nI_add]) rfl ?_
          refine k_goto hK ti_88_45 jt_45_m40 ?_
          exact ih (i + 1) (by omega) (by omega)
      · obtain rfl : i = g_len s a := by omega
        refine k_iload_n hK ti_88_48 rfl ?_
        refine k_ireturn hK ti_88_49 rk_88 mc_88 ms_88 (Nat.le_of_ble_eq_true rfl) (Nat.le_of_ble_eq_true rfl) ?_
        exact h
  refine k_iconst hK ti_88_0 kI_0 ?_
  refine k_istore_n hK (L' := [some (.ref 22), some (.int _), some (.int _), some (.int _), none]) ti_88_1 rfl ?_
  refine k_iconst hK ti_88_2 kI_0 ?_
  refine k_istore hK (L' := [some (.ref 22), some (.int _), some (.int _), some (.int _), some (.int _)]) ti_88_3 rfl ?_
  exact loop (g_len s a + 1) 0 (by omega) (by omega)
