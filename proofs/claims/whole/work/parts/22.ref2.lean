/-! The reference: scores, fit articles. (written by wip/whole/ref2.py) -/
set_option maxRecDepth 100000 in
set_option maxHeartbeats 4000000 in
theorem sp_X4_rare {X : dp_X} {d n : Nat} {M : dp_M} {o : Int64} {Q : dp_Q} (h65 : 65 ≤ n) {s : GSt} (x : Nat) (hG : RG M s) (hx : x < 2 ^ 31) (h : Q (.inl (some (.int (nI (rar s x))))) M o) : dp_run X (d + 2 + 1) 89 [.ref 22, .int (nI x)] n M o Q := by
  apply k_run
  intro K hK
  rw [mL_89]
  show K 0 [some (.ref 22), some (.int (nI x)), none, none] [] n 0 0 M o
  have hA16 := hG.1.1
  have hC6 := hG.1.2.1
  refine k_iconst hK ti_89_0 kI_0 ?_
  refine k_istore_n hK (L' := [some (.ref 22), some (.int _), some (.int _), none]) ti_89_1 rfl ?_
  refine k_iconst hK ti_89_2 kI_0 ?_
  refine k_istore_n hK (L' := [some (.ref 22), some (.int _), some (.int _), some (.int _)]) ti_89_3 rfl ?_
  have loop : ∀ (f i : Nat), i ≤ g_nA s → g_nA s - i < f → K 4 [some (.ref 22), some (.int (nI x)), some (.int (nI (cnt i (fun a => decide (0 < tm s a x))))), some (.int (nI i))] [] n 0 0 M o := by
    intro f
    induction f with
    | zero => intro i h1 h2; omega
    | succ f ih =>
      intro i h1 h2
      have hcl := cnt_le (fun a => decide (0 < tm s a x)) i
      refine k_iload_n hK ti_89_4 rfl ?_
      refine k_aload_n hK ti_89_5 rfl ?_
      refine k_geti hK (nI (g_nA s)) ti_89_6 ow_89 fd_4_23 (by omega) rfl rfl hG.2.1 ?_
      refine kn_ge hK (by omega) (by omega) ti_89_9 jt_9_26 (fun c_9 => ?_) (fun c_9 => ?_)
      · have htm := tm_le hG.1 (a := i) (by omega) x
        refine k_iload_n hK ti_89_12 rfl ?_
        refine k_aload_n hK ti_89_13 rfl ?_
        refine k_iload_n hK ti_89_14 rfl ?_
        refine k_iload_n hK ti_89_15 rfl ?_
        refine k_callV hK (as := [.int _, .int _]) (st' := [.int _]) ti_89_16 ow_89 iv_4_75 mc_89 ms_89 rfl rfl (by omega) (Nat.le_of_ble_eq_true rfl) (Nat.le_of_ble_eq_true rfl) (Nat.le_of_ble_eq_true rfl) (Nat.le_of_ble_eq_true rfl) (by omega) rfl ?_
        refine sp_X4_times (by omega) i x hG (by omega) (by omega) ?_
        refine kz_le hK (by omega) ti_89_19 jt_19_7 (fun c_19 => ?_) (fun c_19 => ?_)
        · refine k_iconst hK ti_89_22 kI_1 ?_
          refine k_goto hK ti_89_23 jt_23_4 ?_
          refine k_iadd hK (z := (nI (cnt (i + 1) (fun a => decide (0 < tm s a x))))) ti_89_27 (by rw [cnt_t (by simp [c_19]), nI_add]) ?_
          refine k_istore_n hK (L' := [some (.ref 22), some (.int _), some (.int _), some (.int _)]) ti_89_28 rfl ?_
          refine k_iinc hK (L' := [some (.ref 22), some (.int _), some (.int _), some (.int (nI (i + 1)))]) ti_89_29 rfl (by rw [kI_1, nI_add]) rfl ?_
          refine k_goto hK ti_89_32 jt_32_m28 ?_
          exact ih (i + 1) (by omega) (by omega) 
        · refine k_iconst hK ti_89_26 kI_0 ?_
          refine k_iadd hK (z := (nI (cnt (i + 1) (fun a => decide (0 < tm s a x))))) ti_89_27 (by rw [cnt_f (by simp [c_19]), nI_add, Nat.add_zero]) ?_
          refine k_istore_n hK (L' := [some (.ref 22), some (.int _), some (.int _), some (.int _)]) ti_89_28 rfl ?_
          refine k_iinc hK (L' := [some (.ref 22), some (.int _), some (.int _), some (.int (nI (i + 1)))]) ti_89_29 rfl (by rw [kI_1, nI_add]) rfl ?_
          refine k_goto hK ti_89_32 jt_32_m28 ?_
          exact ih (i + 1) (by omega) (by omega) 
      · obtain rfl : i = g_nA s := by omega
        have hcl := cnt_le (fun a => decide (0 < tm s a x)) (g_nA s)
        refine k_bipush hK ti_89_35 kB_10 ?_
        refine k_aload_n hK ti_89_37 rfl ?_
        refine k_geti hK (nI (g_nA s)) ti_89_38 ow_89 fd_4_23 (by omega) rfl rfl hG.2.1 ?_
        refine k_iconst hK ti_89_41 kI_1 ?_
        refine k_iadd hK (z := (nI (g_nA s + 1))) ti_89_42 (nI_add _ _) ?_
        refine k_imul hK (z := (nI (10 * (g_nA s + 1)))) ti_89_43 (pk_mul _ _) ?_
        refine k_iload_n hK ti_89_44 rfl ?_
        refine k_iconst hK ti_89_45 kI_1 ?_
        refine k_iadd hK (z := (nI (cnt (g_nA s) (fun a => decide (0 < tm s a x)) + 1))) ti_89_46 (nI_add _ _) ?_
        refine k_idiv hK (z := (nI (rar s x))) ti_89_47 (nI_ne0 (by omega) (by omega)) (pk_div (by omega) (by omega) (by omega)) ?_
        refine k_ireturn hK ti_89_48 rk_89 mc_89 ms_89 (Nat.le_of_ble_eq_true rfl) (Nat.le_of_ble_eq_true rfl) ?_
        exact h
  exact loop (g_nA s - 0 + 1) 0 (by omega) (by omega) 

set_option maxRecDepth 100000 in
set_option maxHeartbeats 4000000 in
theorem sp_X4_scored {X : dp_X} {d n : Nat} {M : dp_M} {o : Int64} {Q : dp_Q} (h65 : 65 ≤ n) {s : GSt} {l : LSt} (c a : Nat) (hG : RG M s) (hL : RLt M l) (hc : c < g_nC s) (ha : a < 16) (h : Q (.inl (some (.int (sc s l c a)))) M o) : dp_run X (d + 3 + 1) 90 [.ref 22, .int (nI c), .int (nI a)] n M o Q := by
  apply k_run
  intro K hK
  rw [mL_90]
  show K 0 [some (.ref 22), some (.int (nI c)), some (.int (nI a)), none, none, none, none, none] [] n 0 0 M o
  have hA16 := hG.1.1
  have hC6 := hG.1.2.1
  have hm5 := hG.1.2.2.2.2.2.1 c (by omega)
  refine k_iconst hK ti_90_0 kI_0 ?_
  refine k_istore_n hK (L' := [some (.ref 22), some (.int _), some (.int _), some (.int _), none, none, none, none]) ti_90_1 rfl ?_
  refine k_iconst hK ti_90_2 kI_0 ?_
  refine k_istore hK (L' := [some (.ref 22), some (.int _), some (.int _), some (.int _), some (.int _), none, none, none]) ti_90_3 rfl ?_
  refine k_iconst hK ti_90_5 kI_0 ?_
  refine k_istore hK (L' := [some (.ref 22), some (.int _), some (.int _), some (.int _), some (.int _), some (.int _), none, none]) ti_90_6 rfl ?_
  have loop : ∀ (f i : Nat) (u : Option Value) (v : Option Value), i ≤ g_many s c → g_many s c - i < f → K 8 [some (.ref 22), some (.int (nI c)), some (.int (nI a)), some (.int (nI (pts s (g_wish s c) i a))), some (.int (nI (fnd s (g_wish s c) i a))), some (.int (nI i)), u, v] [] n 0 0 M o := by
    intro f
    induction f with
    | zero => intro i u v h1 h2; omega
    | succ f ih =>
      intro i u v h1 h2
      have hp := pts_le hG.1 (g_wish s c) i a
      have hfn : fnd s (g_wish s c) i a ≤ i := cnt_le _ _
      refine k_iload hK ti_90_8 rfl ?_
      refine k_aload_n hK ti_90_10 rfl ?_
      refine k_iload_n hK ti_90_11 rfl ?_
      refine k_iconst hK ti_90_12 kI_1 ?_
      refine k_callV hK (as := [.int _, .int _]) (st' := [.int _]) ti_90_13 ow_90 iv_4_61 mc_90 ms_90 rfl rfl (by omega) (Nat.le_of_ble_eq_true rfl) (Nat.le_of_ble_eq_true rfl) (Nat.le_of_ble_eq_true rfl) (Nat.le_of_ble_eq_true rfl) (by omega) rfl ?_
      refine sp_X4_cl (by omega) c 1 (by omega) (by omega) (k_aftv ((nI (g_many s c))) (hG.2.2.2.2.2.2.1 c (by omega)) ?_)
      refine kn_ge hK (by omega) (by omega) ti_90_16 jt_16_60 (fun c_16 => ?_) (fun c_16 => ?_)
      · have hw20 := hG.1.2.2.2.2.2.2 c i (by omega) c_16
        have htm := tm_le hG.1 (a := a) (by omega) (g_wish s c i)
        have hrr := rar_le hG.1 (g_wish s c i)
        refine k_aload_n hK ti_90_19 rfl ?_
        refine k_iload_n hK ti_90_20 rfl ?_
        refine k_iconst hK ti_90_21 kI_5 ?_
        refine k_iload hK ti_90_22 rfl ?_
        refine k_iadd hK (z := (nI (5 + i))) ti_90_24 (nI_add _ _) ?_
        refine k_callV hK (as := [.int _, .int _]) (st' := []) ti_90_25 ow_90 iv_4_61 mc_90 ms_90 rfl rfl (by omega) (Nat.le_of_ble_eq_true rfl) (Nat.le_of_ble_eq_true rfl) (Nat.le_of_ble_eq_true rfl) (Nat.le_of_ble_eq_true rfl) (by omega) rfl ?_
        refine sp_X4_cl (by omega) c (5 + i) (by omega) (by omega) (k_aftv ((nI (g_wish s c i))) (hG.2.2.2.2.2.2.2.1 c i (by omega) (by omega)) ?_)
        refine k_istore hK (L' := [some (.ref 22), some (.int _), some (.int _), some (.int _), some (.int _), some (.int _), some (.int _), v]) ti_90_28 rfl ?_
        refine k_aload_n hK ti_90_30 rfl ?_
        refine k_iload_n hK ti_90_31 rfl ?_
        refine k_iload hK ti_90_32 rfl ?_
        refine k_callV hK (as := [.int _, .int _]) (st' := []) ti_90_34 ow_90 iv_4_75 mc_90 ms_90 rfl rfl (by omega) (Nat.le_of_ble_eq_true rfl) (Nat.le_of_ble_eq_true rfl) (Nat.le_of_ble_eq_true rfl) (Nat.le_of_ble_eq_true rfl) (by omega) rfl ?_
        refine sp_X4_times (by omega) a (g_wish s c i) hG (by omega) (by omega) ?_
        refine k_istore hK (L' := [some (.ref 22), some (.int _), some (.int _), some (.int _), some (.int _), some (.int _), some (.int _), some (.int _)]) ti_90_37 rfl ?_
        refine k_iload hK ti_90_39 rfl ?_
        refine k_iload hK ti_90_41 rfl ?_
        refine kz_le hK (by omega) ti_90_43 jt_43_7 (fun c_43 => ?_) (fun c_43 => ?_)
        · refine k_iconst hK ti_90_46 kI_1 ?_
          refine k_goto hK ti_90_47 jt_47_4 ?_
          refine k_iadd hK (z := (nI (fnd s (g_wish s c) (i + 1) a))) ti_90_51 (by rw [show fnd s (g_wish s c) (i + 1) a = _ from cnt_t (by simp [c_43]), nI_add]; rfl) ?_
          refine k_istore hK (L' := [some (.ref 22), some (.int _), some (.int _), some (.int _), some (.int _), some (.int _), some (.int _), some (.int _)]) ti_90_52 rfl ?_
          refine k_iload_n hK ti_90_54 rfl ?_
          refine k_iconst hK ti_90_55 kI_3 ?_
          refine k_iload hK ti_90_56 rfl ?_
          refine k_minv hK (nI (min 3 (tm s a (g_wish s c i)))) ti_90_58 ow_90 nt_4_70 mc_90 ms_90 (Nat.le_of_ble_eq_true rfl) (Nat.le_of_ble_eq_true rfl) (Nat.le_of_ble_eq_true rfl) (nI_min (by omega) (by omega)) ?_
          refine k_aload_n hK ti_90_61 rfl ?_
          refine k_iload hK ti_90_62 rfl ?_
          refine k_callV hK (as := [.int _]) (st' := [.int _, .int _]) ti_90_64 ow_90 iv_4_78 mc_90 ms_90 rfl rfl (by omega) (Nat.le_of_ble_eq_true rfl) (Nat.le_of_ble_eq_true rfl) (Nat.le_of_ble_eq_true rfl) (Nat.le_of_ble_eq_true rfl) (by omega) rfl ?_
          refine sp_X4_rare (by omega) (g_wish s c i) hG (by omega) ?_
          refine k_imul hK (z := (nI ((min 3 (tm s a (g_wish s c i))) * (rar s (g_wish s c i))))) ti_90_67 (pk_mul _ _) ?_
          refine k_iadd hK (z := (nI (pts s (g_wish s c) (i + 1) a))) ti_90_68 (nI_add _ _) ?_
          refine k_istore_n hK (L' := [some (.ref 22), some (.int _), some (.int _), some (.int _), some (.int _), some (.int _), some (.int _), some (.int _)]) ti_90_69 rfl ?_
          refine k_iinc hK (L' := [some (.ref 22), some (.int _), some (.int _), some (.int _), some (.int _), some (.int (nI (i + 1))), some (.int _), some (.int _)]) ti_90_70 rfl (by rw [kI_1, nI_add]) rfl ?_
          refine k_goto hK ti_90_73 jt_73_m65 ?_
          exact ih (i + 1) _ _ (by omega) (by omega) 
        · refine k_iconst hK ti_90_50 kI_0 ?_
          refine k_iadd hK (z := (nI (fnd s (g_wish s c) (i + 1) a))) ti_90_51 (by rw [show fnd s (g_wish s c) (i + 1) a = _ from cnt_f (by simp [c_43]), nI_add, Nat.add_zero]; rfl) ?_
          refine k_istore hK (L' := [some (.ref 22), some (.int _), some (.int _), some (.int _), some (.int _), some (.int _), some (.int _), some (.int _)]) ti_90_52 rfl ?_
          refine k_iload_n hK ti_90_54 rfl ?_
          refine k_iconst hK ti_90_55 kI_3 ?_
          refine k_iload hK ti_90_56 rfl ?_
          refine k_minv hK (nI (min 3 (tm s a (g_wish s c i)))) ti_90_58 ow_90 nt_4_70 mc_90 ms_90 (Nat.le_of_ble_eq_true rfl) (Nat.le_of_ble_eq_true rfl) (Nat.le_of_ble_eq_true rfl) (nI_min (by omega) (by omega)) ?_
          refine k_aload_n hK ti_90_61 rfl ?_
          refine k_iload hK ti_90_62 rfl ?_
          refine k_callV hK (as := [.int _]) (st' := [.int _, .int _]) ti_90_64 ow_90 iv_4_78 mc_90 ms_90 rfl rfl (by omega) (Nat.le_of_ble_eq_true rfl) (Nat.le_of_ble_eq_true rfl) (Nat.le_of_ble_eq_true rfl) (Nat.le_of_ble_eq_true rfl) (by omega) rfl ?_
          refine sp_X4_rare (by omega) (g_wish s c i) hG (by omega) ?_
          refine k_imul hK (z := (nI ((min 3 (tm s a (g_wish s c i))) * (rar s (g_wish s c i))))) ti_90_67 (pk_mul _ _) ?_
          refine k_iadd hK (z := (nI (pts s (g_wish s c) (i + 1) a))) ti_90_68 (nI_add _ _) ?_
          refine k_istore_n hK (L' := [some (.ref 22), some (.int _), some (.int _), some (.int _), some (.int _), some (.int _), some (.int _), some (.int _)]) ti_90_69 rfl ?_
          refine k_iinc hK (L' := [some (.ref 22), some (.int _), some (.int _), some (.int _), some (.int _), some (.int (nI (i + 1))), some (.int _), some (.int _)]) ti_90_70 rfl (by rw [kI_1, nI_add]) rfl ?_
          refine k_goto hK ti_90_73 jt_73_m65 ?_
          exact ih (i + 1) _ _ (by omega) (by omega) 
      · obtain rfl : i = g_many s c := by omega
        have hp2 : pt2 s (g_wish s c) (g_many s c) a = if 2 ≤ g_many s c ∧ fnd s (g_wish s c) (g_many s c) a = g_many s c then pts s (g_wish s c) (g_many s c) a + pts s (g_wish s c) (g_many s c) a / 2 else pts s (g_wish s c) (g_many s c) a := rfl
        refine k_iload hK ti_90_76 rfl ?_
        refine k_iconst hK ti_90_78 kI_2 ?_
        refine kn_lt hK (by omega) (by omega) ti_90_79 jt_79_20 (fun c_79 => ?_) (fun c_79 => ?_)
        · have e3 : pts s (g_wish s c) (g_many s c) a = pt2 s (g_wish s c) (g_many s c) a := by rw [hp2, if_neg (by omega)]
          rw [e3]
          · refine k_iconst hK ti_90_99 kI_0 ?_
            refine k_iload_n hK ti_90_100 rfl ?_
            refine k_iconst hK ti_90_101 kI_3 ?_
            refine k_aload_n hK ti_90_102 rfl ?_
            refine k_iload_n hK ti_90_103 rfl ?_
            refine k_iconst hK ti_90_104 kI_1 ?_
            refine k_callV hK (as := [.int _, .int _]) (st' := [.int _, .int _, .int _]) ti_90_105 ow_90 iv_4_47 mc_90 ms_90 rfl rfl (by omega) (Nat.le_of_ble_eq_true rfl) (Nat.le_of_ble_eq_true rfl) (Nat.le_of_ble_eq_true rfl) (Nat.le_of_ble_eq_true rfl) (by omega) rfl ?_
            refine sp_X4_ar (by omega) a 1 (by omega) (by omega) (k_aftv ((l_age l a)) (hL.2.1 a (by omega)) ?_)
            refine k_imul hK ti_90_108 rfl ?_
            refine k_isub hK ti_90_109 rfl ?_
            refine k_maxv hK (sc s l c a) ti_90_110 ow_90 nt_4_81 mc_90 ms_90 (Nat.le_of_ble_eq_true rfl) (Nat.le_of_ble_eq_true rfl) (Nat.le_of_ble_eq_true rfl) mx0_max ?_
            refine k_ireturn hK ti_90_113 rk_90 mc_90 ms_90 (Nat.le_of_ble_eq_true rfl) (Nat.le_of_ble_eq_true rfl) ?_
            exact h
        · refine k_iload hK ti_90_82 rfl ?_
          refine k_aload_n hK ti_90_84 rfl ?_
          refine k_iload_n hK ti_90_85 rfl ?_
          refine k_iconst hK ti_90_86 kI_1 ?_
          refine k_callV hK (as := [.int _, .int _]) (st' := [.int _]) ti_90_87 ow_90 iv_4_61 mc_90 ms_90 rfl rfl (by omega) (Nat.le_of_ble_eq_true rfl) (Nat.le_of_ble_eq_true rfl) (Nat.le_of_ble_eq_true rfl) (Nat.le_of_ble_eq_true rfl) (by omega) rfl ?_
          refine sp_X4_cl (by omega) c 1 (by omega) (by omega) (k_aftv ((nI (g_many s c))) (hG.2.2.2.2.2.2.1 c (by omega)) ?_)
          refine kn_ne hK (by omega) (by omega) ti_90_90 jt_90_9 (fun c_90 => ?_) (fun c_90 => ?_)
          · refine k_iload_n hK ti_90_93 rfl ?_
            refine k_iload_n hK ti_90_94 rfl ?_
            refine k_iconst hK ti_90_95 kI_2 ?_
            refine k_idiv hK (z := (nI (pts s (g_wish s c) (g_many s c) a / 2))) ti_90_96 (by decide) (pk_div (by omega) (by omega) (by omega)) ?_
            refine k_iadd hK (z := (nI (pt2 s (g_wish s c) (g_many s c) a))) ti_90_97 (by rw [hp2, if_pos (by omega), nI_add]) ?_
            refine k_istore_n hK (L' := [some (.ref 22), some (.int _), some (.int _), some (.int _), some (.int _), some (.int _), u, v]) ti_90_98 rfl ?_
            · refine k_iconst hK ti_90_99 kI_0 ?_
              refine k_iload_n hK ti_90_100 rfl ?_
              refine k_iconst hK ti_90_101 kI_3 ?_
              refine k_aload_n hK ti_90_102 rfl ?_
              refine k_iload_n hK ti_90_103 rfl ?_
              refine k_iconst hK ti_90_104 kI_1 ?_
              refine k_callV hK (as := [.int _, .int _]) (st' := [.int _, .int _, .int _]) ti_90_105 ow_90 iv_4_47 mc_90 ms_90 rfl rfl (by omega) (Nat.le_of_ble_eq_true rfl) (Nat.le_of_ble_eq_true rfl) (Nat.le_of_ble_eq_true rfl) (Nat.le_of_ble_eq_true rfl) (by omega) rfl ?_
              refine sp_X4_ar (by omega) a 1 (by omega) (by omega) (k_aftv ((l_age l a)) (hL.2.1 a (by omega)) ?_)
              refine k_imul hK ti_90_108 rfl ?_
              refine k_isub hK ti_90_109 rfl ?_
              refine k_maxv hK (sc s l c a) ti_90_110 ow_90 nt_4_81 mc_90 ms_90 (Nat.le_of_ble_eq_true rfl) (Nat.le_of_ble_eq_true rfl) (Nat.le_of_ble_eq_true rfl) mx0_max ?_
              refine k_ireturn hK ti_90_113 rk_90 mc_90 ms_90 (Nat.le_of_ble_eq_true rfl) (Nat.le_of_ble_eq_true rfl) ?_
              exact h
          · have e3 : pts s (g_wish s c) (g_many s c) a = pt2 s (g_wish s c) (g_many s c) a := by rw [hp2, if_neg (by omega)]
            rw [e3]
            · refine k_iconst hK ti_90_99 kI_0 ?_
              refine k_iload_n hK ti_90_100 rfl ?_
              refine k_iconst hK ti_90_101 kI_3 ?_
              refine k_aload_n hK ti_90_102 rfl ?_
              refine k_iload_n hK ti_90_103 rfl ?_
              refine k_iconst hK ti_90_104 kI_1 ?_
              refine k_callV hK (as := [.int _, .int _]) (st' := [.int _, .int _, .int _]) ti_90_105 ow_90 iv_4_47 mc_90 ms_90 rfl rfl (by omega) (Nat.le_of_ble_eq_true rfl) (Nat.le_of_ble_eq_true rfl) (Nat.le_of_ble_eq_true rfl) (Nat.le_of_ble_eq_true rfl) (by omega) rfl ?_
              refine sp_X4_ar (by omega) a 1 (by omega) (by omega) (k_aftv ((l_age l a)) (hL.2.1 a (by omega)) ?_)
              refine k_imul hK ti_90_108 rfl ?_
              refine k_isub hK ti_90_109 rfl ?_
              refine k_maxv hK (sc s l c a) ti_90_110 ow_90 nt_4_81 mc_90 ms_90 (Nat.le_of_ble_eq_true rfl) (Nat.le_of_ble_eq_true rfl) (Nat.le_of_ble_eq_true rfl) mx0_max ?_
              refine k_ireturn hK ti_90_113 rk_90 mc_90 ms_90 (Nat.le_of_ble_eq_true rfl) (Nat.le_of_ble_eq_true rfl) ?_
              exact h
  exact loop (g_many s c - 0 + 1) 0 _ _ (by omega) (by omega) 

set_option maxRecDepth 100000 in
set_option maxHeartbeats 4000000 in
theorem sp_X4_isFit {X : dp_X} {d n : Nat} {M : dp_M} {o : Int64} {Q : dp_Q} (h65 : 65 ≤ n) {s : GSt} {l : LSt} (c a : Nat) (hG : RG M s) (hL : RLt M l) (hc : c < g_nC s) (ha : a < 16) (h : Q (.inl (some (.int (bl (fit s l c a))))) M o) : dp_run X (d + 4 + 1) 91 [.ref 22, .int (nI c), .int (nI a)] n M o Q := by
  apply k_run
  intro K hK
  rw [mL_91]
  show K 0 [some (.ref 22), some (.int (nI c)), some (.int (nI a))] [] n 0 0 M o
  have hA16 := hG.1.1
  have hC6 := hG.1.2.1
  have hs16 := hL.1 c (by omega)
  refine k_aload_n hK ti_91_0 rfl ?_
  refine k_iload_n hK ti_91_1 rfl ?_
  refine k_iconst hK ti_91_2 kI_4 ?_
  refine k_callV hK (as := [.int _, .int _]) (st' := []) ti_91_3 ow_91 iv_4_61 mc_91 ms_91 rfl rfl (by omega) (Nat.le_of_ble_eq_true rfl) (Nat.le_of_ble_eq_true rfl) (Nat.le_of_ble_eq_true rfl) (Nat.le_of_ble_eq_true rfl) (by omega) rfl ?_
  refine sp_X4_cl (by omega) c 4 (by omega) (by omega) (k_aftv ((nI (l_sent l c))) ((hL.2.2.1 c (by omega)).2.2) ?_)
  refine k_iload_n hK ti_91_6 rfl ?_
  refine k_ishr hK ti_91_7 rfl ?_
  refine k_iconst hK ti_91_8 kI_1 ?_
  refine k_iand hK (z := (bl (bit (l_sent l c) a))) ti_91_9 (nI_bit (by omega) (by omega)) ?_
  refine kb_ne hK ti_91_10 jt_10_22 (fun c_10 => ?_) (fun c_10 => ?_)
  · have e3 : fit s l c a = !decide (sc s l c a < g_bar s c) := by simp [fit, c_10]
    rw [e3] at h
    refine k_aload_n hK ti_91_13 rfl ?_
    refine k_iload_n hK ti_91_14 rfl ?_
    refine k_iload_n hK ti_91_15 rfl ?_
    refine k_callV hK (as := [.int _, .int _]) (st' := []) ti_91_16 ow_91 iv_4_84 mc_91 ms_91 rfl rfl (by omega) (Nat.le_of_ble_eq_true rfl) (Nat.le_of_ble_eq_true rfl) (Nat.le_of_ble_eq_true rfl) (Nat.le_of_ble_eq_true rfl) (by omega) rfl ?_
    refine sp_X4_scored (by omega) c a hG hL (by omega) (by omega) ?_
    refine k_aload_n hK ti_91_19 rfl ?_
    refine k_iload_n hK ti_91_20 rfl ?_
    refine k_iconst hK ti_91_21 kI_2 ?_
    refine k_callV hK (as := [.int _, .int _]) (st' := [.int _]) ti_91_22 ow_91 iv_4_61 mc_91 ms_91 rfl rfl (by omega) (Nat.le_of_ble_eq_true rfl) (Nat.le_of_ble_eq_true rfl) (Nat.le_of_ble_eq_true rfl) (Nat.le_of_ble_eq_true rfl) (by omega) rfl ?_
    refine sp_X4_cl (by omega) c 2 (by omega) (by omega) (k_aftv ((g_bar s c)) (hG.2.2.2.2.2.2.2.2 c (by omega)) ?_)
    refine k_icmp_lt hK ti_91_25 jt_25_7 (fun c_25 => ?_) (fun c_25 => ?_)
    · rw [show (!decide (sc s l c a < g_bar s c)) = false by simp [c_25]] at h
      refine k_iconst hK ti_91_32 kI_0 ?_
      refine k_zreturn hK ti_91_33 rk_91 mc_91 ms_91 (Nat.le_of_ble_eq_true rfl) (Nat.le_of_ble_eq_true rfl) (by decide) ?_
      exact h
    · rw [show (!decide (sc s l c a < g_bar s c)) = true by simp [c_25]] at h
      refine k_iconst hK ti_91_28 kI_1 ?_
      refine k_goto hK ti_91_29 jt_29_4 ?_
      refine k_zreturn hK ti_91_33 rk_91 mc_91 ms_91 (Nat.le_of_ble_eq_true rfl) (Nat.le_of_ble_eq_true rfl) (by decide) ?_
      exact h
  · have e3 : fit s l c a = false := by simp [fit, c_10]
    rw [e3] at h
    refine k_iconst hK ti_91_32 kI_0 ?_
    refine k_zreturn hK ti_91_33 rk_91 mc_91 ms_91 (Nat.le_of_ble_eq_true rfl) (Nat.le_of_ble_eq_true rfl) (by decide) ?_
    exact h

set_option maxRecDepth 100000 in
set_option maxHeartbeats 4000000 in
theorem sp_X4_fits {X : dp_X} {d n : Nat} {M : dp_M} {o : Int64} {Q : dp_Q} (h65 : 65 ≤ n) {s : GSt} {l : LSt} (c : Nat) (hG : RG M s) (hL : RLt M l) (hc : c < g_nC s) (h : Q (.inl (some (.int (nI (fts s l c))))) M o) : dp_run X (d + 5 + 1) 93 [.ref 22, .int (nI c)] n M o Q := by
  apply k_run
  intro K hK
  rw [mL_93]
  show K 0 [some (.ref 22), some (.int (nI c)), none, none] [] n 0 0 M o
  have hA16 := hG.1.1
  have hC6 := hG.1.2.1
  refine k_iconst hK ti_93_0 kI_0 ?_
  refine k_istore_n hK (L' := [some (.ref 22), some (.int _), some (.int _), none]) ti_93_1 rfl ?_
  refine k_iconst hK ti_93_2 kI_0 ?_
  refine k_istore_n hK (L' := [some (.ref 22), some (.int _), some (.int _), some (.int _)]) ti_93_3 rfl ?_
  have loop : ∀ (f i : Nat), i ≤ g_nA s → g_nA s - i < f → K 4 [some (.ref 22), some (.int (nI c)), some (.int (nI (cnt i (fit s l c)))), some (.int (nI i))] [] n 0 0 M o := by
    intro f
    induction f with
    | zero => intro i h1 h2; omega
    | succ f ih =>
      intro i h1 h2
      have hcl := cnt_le (fit s l c) i
      refine k_iload_n hK ti_93_4 rfl ?_
      refine k_aload_n hK ti_93_5 rfl ?_
      refine k_geti hK (nI (g_nA s)) ti_93_6 ow_93 fd_4_23 (by omega) rfl rfl hG.2.1 ?_
      refine kn_ge hK (by omega) (by omega) ti_93_9 jt_9_26 (fun c_9 => ?_) (fun c_9 => ?_)
      · refine k_iload_n hK ti_93_12 rfl ?_
        refine k_aload_n hK ti_93_13 rfl ?_
        refine k_iload_n hK ti_93_14 rfl ?_
        refine k_iload_n hK ti_93_15 rfl ?_
        refine k_callV hK (as := [.int _, .int _]) (st' := [.int _]) ti_93_16 ow_93 iv_4_87 mc_93 ms_93 rfl rfl (by omega) (Nat.le_of_ble_eq_true rfl) (Nat.le_of_ble_eq_true rfl) (Nat.le_of_ble_eq_true rfl) (Nat.le_of_ble_eq_true rfl) (by omega) rfl ?_
        refine sp_X4_isFit (by omega) c i hG hL (by omega) (by omega) ?_
        refine kb_eq hK ti_93_19 jt_19_7 (fun c_19 => ?_) (fun c_19 => ?_)
        · refine k_iconst hK ti_93_26 kI_0 ?_
          refine k_iadd hK (z := (nI (cnt (i + 1) (fit s l c)))) ti_93_27 (by rw [cnt_f (by simp [c_19]), nI_add, Nat.add_zero]) ?_
          refine k_istore_n hK (L' := [some (.ref 22), some (.int _), some (.int _), some (.int _)]) ti_93_28 rfl ?_
          refine k_iinc hK (L' := [some (.ref 22), some (.int _), some (.int _), some (.int (nI (i + 1)))]) ti_93_29 rfl (by rw [kI_1, nI_add]) rfl ?_
          refine k_goto hK ti_93_32 jt_32_m28 ?_
          exact ih (i + 1) (by omega) (by omega) 
        · refine k_iconst hK ti_93_22 kI_1 ?_
          refine k_goto hK ti_93_23 jt_23_4 ?_
          refine k_iadd hK (z := (nI (cnt (i + 1) (fit s l c)))) ti_93_27 (by rw [cnt_t (by simp [c_19]), nI_add]) ?_
          refine k_istore_n hK (L' := [some (.ref 22), some (.int _), some (.int _), some (.int _)]) ti_93_28 rfl ?_
          refine k_iinc hK (L' := [some (.ref 22), some (.int _), some (.int _), some (.int (nI (i + 1)))]) ti_93_29 rfl (by rw [kI_1, nI_add]) rfl ?_
          refine k_goto hK ti_93_32 jt_32_m28 ?_
          exact ih (i + 1) (by omega) (by omega) 
      · obtain rfl : i = g_nA s := by omega
        refine k_iload_n hK ti_93_35 rfl ?_
        refine k_ireturn hK ti_93_36 rk_93 mc_93 ms_93 (Nat.le_of_ble_eq_true rfl) (Nat.le_of_ble_eq_true rfl) ?_
        exact h
  exact loop (g_nA s - 0 + 1) 0 (by omega) (by omega) 

set_option maxRecDepth 100000 in
set_option maxHeartbeats 4000000 in
theorem sp_X4_price {X : dp_X} {d n : Nat} {M : dp_M} {o : Int64} {Q : dp_Q} (h65 : 65 ≤ n) {s : GSt} {l : LSt} (c a : Nat) (hG : RG M s) (hL : RLt M l) (hc : c < g_nC s) (ha : a < 16) (h : Q (.inl (some (.int (prc s l c a)))) M o) : dp_run X (d + 4 + 1) 94 [.ref 22, .int (nI c), .int (nI a)] n M o Q := by
  apply k_run
  intro K hK
  rw [mL_94]
  show K 0 [some (.ref 22), some (.int (nI c)), some (.int (nI a))] [] n 0 0 M o
  have hA16 := hG.1.1
  have hC6 := hG.1.2.1
  refine k_iconst hK ti_94_0 kI_2 ?_
  refine k_aload_n hK ti_94_1 rfl ?_
  refine k_iload_n hK ti_94_2 rfl ?_
  refine k_iload_n hK ti_94_3 rfl ?_
  refine k_callV hK (as := [.int _, .int _]) (st' := [.int _]) ti_94_4 ow_94 iv_4_84 mc_94 ms_94 rfl rfl (by omega) (Nat.le_of_ble_eq_true rfl) (Nat.le_of_ble_eq_true rfl) (Nat.le_of_ble_eq_true rfl) (Nat.le_of_ble_eq_true rfl) (by omega) rfl ?_
  refine sp_X4_scored (by omega) c a hG hL (by omega) (by omega) ?_
  refine k_bipush hK ti_94_7 kB_20 ?_
  refine k_idiv hK ti_94_9 (by decide) rfl ?_
  refine k_iadd hK (z := (prc s l c a)) ti_94_10 rfl ?_
  refine k_ireturn hK ti_94_11 rk_94 mc_94 ms_94 (Nat.le_of_ble_eq_true rfl) (Nat.le_of_ble_eq_true rfl) ?_
  exact h

set_option maxRecDepth 100000 in
set_option maxHeartbeats 4000000 in
theorem sp_X4_fitAt {X : dp_X} {d n : Nat} {M : dp_M} {o : Int64} {Q : dp_Q} (h65 : 65 ≤ n) {s : GSt} {l : LSt} (c p : Nat) (hG : RG M s) (hL : RLt M l) (hc : c < g_nC s) (hp : p < 2 ^ 31) (h : Q (.inl (some (.int (oI (fA s l c p))))) M o) : dp_run X (d + 5 + 1) 92 [.ref 22, .int (nI c), .int (nI p)] n M o Q := by
  apply k_run
  intro K hK
  rw [mL_92]
  show K 0 [some (.ref 22), some (.int (nI c)), some (.int (nI p)), none, none, none] [] n 0 0 M o
  have hA16 := hG.1.1
  have hC6 := hG.1.2.1
  refine k_iconst hK ti_92_0 kI_0 ?_
  refine k_istore_n hK (L' := [some (.ref 22), some (.int _), some (.int _), some (.int _), none, none]) ti_92_1 rfl ?_
  have loop : ∀ (f i : Nat) (u : Option Value) (v : Option Value), i ≤ g_nA s → g_nA s - i < f → (∀ k, k < i → (fit s l c k && decide (rnk s l c k = p)) = false) → K 2 [some (.ref 22), some (.int (nI c)), some (.int (nI p)), some (.int (nI i)), u, v] [] n 0 0 M o := by
    intro f
    induction f with
    | zero => intro i u v h1 h2; omega
    | succ f ih =>
      intro i u v h1 h2 h3
      refine k_iload_n hK ti_92_2 rfl ?_
      refine k_aload_n hK ti_92_3 rfl ?_
      refine k_geti hK (nI (g_nA s)) ti_92_4 ow_92 fd_4_23 (by omega) rfl rfl hG.2.1 ?_
      refine kn_ge hK (by omega) (by omega) ti_92_7 jt_7_108 (fun c_7 => ?_) (fun c_7 => ?_)
      · refine k_aload_n hK ti_92_10 rfl ?_
        refine k_iload_n hK ti_92_11 rfl ?_
        refine k_iload_n hK ti_92_12 rfl ?_
        refine k_callV hK (as := [.int _, .int _]) (st' := []) ti_92_13 ow_92 iv_4_87 mc_92 ms_92 rfl rfl (by omega) (Nat.le_of_ble_eq_true rfl) (Nat.le_of_ble_eq_true rfl) (Nat.le_of_ble_eq_true rfl) (Nat.le_of_ble_eq_true rfl) (by omega) rfl ?_
        refine sp_X4_isFit (by omega) c i hG hL (by omega) (by omega) ?_
        refine kb_ne hK ti_92_16 jt_16_6 (fun c_16 => ?_) (fun c_16 => ?_)
        · refine k_goto hK ti_92_19 jt_19_90 ?_
          refine k_iinc hK (L' := [some (.ref 22), some (.int _), some (.int _), some (.int (nI (i + 1))), u, v]) ti_92_109 rfl (by rw [kI_1, nI_add]) rfl ?_
          refine k_goto hK ti_92_112 jt_112_m110 ?_
          exact ih (i + 1) _ _ (by omega) (by omega) (fun k hk => by by_cases e : k = i; (subst e; simp [*]); exact h3 k (by omega))
        · refine k_iconst hK ti_92_22 kI_0 ?_
          refine k_istore hK (L' := [some (.ref 22), some (.int _), some (.int _), some (.int _), some (.int _), v]) ti_92_23 rfl ?_
          refine k_iconst hK ti_92_25 kI_0 ?_
          refine k_istore hK (L' := [some (.ref 22), some (.int _), some (.int _), some (.int _), some (.int _), some (.int _)]) ti_92_26 rfl ?_
          have loop2 : ∀ (f2 j : Nat), j ≤ g_nA s → g_nA s - j < f2 → K 28 [some (.ref 22), some (.int (nI c)), some (.int (nI p)), some (.int (nI i)), some (.int (nI (cnt j (fun b => fit s l c b && btr (sc s l c) b i)))), some (.int (nI j))] [] n 0 0 M o := by
            intro f2
            induction f2 with
            | zero => intro j h12 h22; omega
            | succ f2 ih2 =>
              intro j h12 h22
              have hcl := cnt_le (fun b => fit s l c b && btr (sc s l c) b i) j
              refine k_iload hK ti_92_28 rfl ?_
              refine k_aload_n hK ti_92_30 rfl ?_
              refine k_geti hK (nI (g_nA s)) ti_92_31 ow_92 fd_4_23 (by omega) rfl rfl hG.2.1 ?_
              refine kn_ge hK (by omega) (by omega) ti_92_34 jt_34_67 (fun c_34 => ?_) (fun c_34 => ?_)
              · refine k_iload hK ti_92_37 rfl ?_
                refine k_aload_n hK ti_92_39 rfl ?_
                refine k_iload_n hK ti_92_40 rfl ?_
                refine k_iload hK ti_92_41 rfl ?_
                refine k_callV hK (as := [.int _, .int _]) (st' := [.int _]) ti_92_43 ow_92 iv_4_87 mc_92 ms_92 rfl rfl (by omega) (Nat.le_of_ble_eq_true rfl) (Nat.le_of_ble_eq_true rfl) (Nat.le_of_ble_eq_true rfl) (Nat.le_of_ble_eq_true rfl) (by omega) rfl ?_
                refine sp_X4_isFit (by omega) c j hG hL (by omega) (by omega) ?_
                refine kb_eq hK ti_92_46 jt_46_45 (fun c_46 => ?_) (fun c_46 => ?_)
                · refine k_iconst hK ti_92_91 kI_0 ?_
                  refine k_iadd hK (z := (nI (cnt (j + 1) (fun b => fit s l c b && btr (sc s l c) b i)))) ti_92_92 (by rw [cnt_f (by simp [btr, *]), nI_add, Nat.add_zero]) ?_
                  refine k_istore hK (L' := [some (.ref 22), some (.int _), some (.int _), some (.int _), some (.int _), some (.int _)]) ti_92_93 rfl ?_
                  refine k_iinc hK (L' := [some (.ref 22), some (.int _), some (.int _), some (.int _), some (.int _), some (.int (nI (j + 1)))]) ti_92_95 rfl (by rw [kI_1, nI_add]) rfl ?_
                  refine k_goto hK ti_92_98 jt_98_m70 ?_
                  exact ih2 (j + 1) (by omega) (by omega) 
                · refine k_aload_n hK ti_92_49 rfl ?_
                  refine k_iload_n hK ti_92_50 rfl ?_
                  refine k_iload hK ti_92_51 rfl ?_
                  refine k_callV hK (as := [.int _, .int _]) (st' := [.int _]) ti_92_53 ow_92 iv_4_84 mc_92 ms_92 rfl rfl (by omega) (Nat.le_of_ble_eq_true rfl) (Nat.le_of_ble_eq_true rfl) (Nat.le_of_ble_eq_true rfl) (Nat.le_of_ble_eq_true rfl) (by omega) rfl ?_
                  refine sp_X4_scored (by omega) c j hG hL (by omega) (by omega) ?_
                  refine k_aload_n hK ti_92_56 rfl ?_
                  refine k_iload_n hK ti_92_57 rfl ?_
                  refine k_iload_n hK ti_92_58 rfl ?_
                  refine k_callV hK (as := [.int _, .int _]) (st' := [.int _, .int _]) ti_92_59 ow_92 iv_4_84 mc_92 ms_92 rfl rfl (by omega) (Nat.le_of_ble_eq_true rfl) (Nat.le_of_ble_eq_true rfl) (Nat.le_of_ble_eq_true rfl) (Nat.le_of_ble_eq_true rfl) (by omega) rfl ?_
                  refine sp_X4_scored (by omega) c i hG hL (by omega) (by omega) ?_
                  refine k_icmp_gt hK ti_92_62 jt_62_25 (fun c_62 => ?_) (fun c_62 => ?_)
                  · refine k_iconst hK ti_92_87 kI_1 ?_
                    refine k_goto hK ti_92_88 jt_88_4 ?_
                    refine k_iadd hK (z := (nI (cnt (j + 1) (fun b => fit s l c b && btr (sc s l c) b i)))) ti_92_92 (by rw [cnt_t (by simp [btr, *]), nI_add]) ?_
                    refine k_istore hK (L' := [some (.ref 22), some (.int _), some (.int _), some (.int _), some (.int _), some (.int _)]) ti_92_93 rfl ?_
                    refine k_iinc hK (L' := [some (.ref 22), some (.int _), some (.int _), some (.int _), some (.int _), some (.int (nI (j + 1)))]) ti_92_95 rfl (by rw [kI_1, nI_add]) rfl ?_
                    refine k_goto hK ti_92_98 jt_98_m70 ?_
                    exact ih2 (j + 1) (by omega) (by omega) 
                  · refine k_aload_n hK ti_92_65 rfl ?_
                    refine k_iload_n hK ti_92_66 rfl ?_
                    refine k_iload hK ti_92_67 rfl ?_
                    refine k_callV hK (as := [.int _, .int _]) (st' := [.int _]) ti_92_69 ow_92 iv_4_84 mc_92 ms_92 rfl rfl (by omega) (Nat.le_of_ble_eq_true rfl) (Nat.le_of_ble_eq_true rfl) (Nat.le_of_ble_eq_true rfl) (Nat.le_of_ble_eq_true rfl) (by omega) rfl ?_
                    refine sp_X4_scored (by omega) c j hG hL (by omega) (by omega) ?_
                    refine k_aload_n hK ti_92_72 rfl ?_
                    refine k_iload_n hK ti_92_73 rfl ?_
                    refine k_iload_n hK ti_92_74 rfl ?_
                    refine k_callV hK (as := [.int _, .int _]) (st' := [.int _, .int _]) ti_92_75 ow_92 iv_4_84 mc_92 ms_92 rfl rfl (by omega) (Nat.le_of_ble_eq_true rfl) (Nat.le_of_ble_eq_true rfl) (Nat.le_of_ble_eq_true rfl) (Nat.le_of_ble_eq_true rfl) (by omega) rfl ?_
                    refine sp_X4_scored (by omega) c i hG hL (by omega) (by omega) ?_
                    refine k_icmp_ne hK ti_92_78 jt_78_13 (fun c_78 => ?_) (fun c_78 => ?_)
                    · refine k_iload hK ti_92_81 rfl ?_
                      refine k_iload_n hK ti_92_83 rfl ?_
                      refine kn_ge hK (by omega) (by omega) ti_92_84 jt_84_7 (fun c_84 => ?_) (fun c_84 => ?_)
                      · refine k_iconst hK ti_92_87 kI_1 ?_
                        refine k_goto hK ti_92_88 jt_88_4 ?_
                        refine k_iadd hK (z := (nI (cnt (j + 1) (fun b => fit s l c b && btr (sc s l c) b i)))) ti_92_92 (by rw [cnt_t (by simp [btr, *]), nI_add]) ?_
                        refine k_istore hK (L' := [some (.ref 22), some (.int _), some (.int _), some (.int _), some (.int _), some (.int _)]) ti_92_93 rfl ?_
                        refine k_iinc hK (L' := [some (.ref 22), some (.int _), some (.int _), some (.int _), some (.int _), some (.int (nI (j + 1)))]) ti_92_95 rfl (by rw [kI_1, nI_add]) rfl ?_
                        refine k_goto hK ti_92_98 jt_98_m70 ?_
                        exact ih2 (j + 1) (by omega) (by omega) 
                      · refine k_iconst hK ti_92_91 kI_0 ?_
                        refine k_iadd hK (z := (nI (cnt (j + 1) (fun b => fit s l c b && btr (sc s l c) b i)))) ti_92_92 (by rw [cnt_f (by simp [btr, *]), nI_add, Nat.add_zero]) ?_
                        refine k_istore hK (L' := [some (.ref 22), some (.int _), some (.int _), some (.int _), some (.int _), some (.int _)]) ti_92_93 rfl ?_
                        refine k_iinc hK (L' := [some (.ref 22), some (.int _), some (.int _), some (.int _), some (.int _), some (.int (nI (j + 1)))]) ti_92_95 rfl (by rw [kI_1, nI_add]) rfl ?_
                        refine k_goto hK ti_92_98 jt_98_m70 ?_
                        exact ih2 (j + 1) (by omega) (by omega) 
                    · refine k_iconst hK ti_92_91 kI_0 ?_
                      refine k_iadd hK (z := (nI (cnt (j + 1) (fun b => fit s l c b && btr (sc s l c) b i)))) ti_92_92 (by rw [cnt_f (by simp [btr, *]), nI_add, Nat.add_zero]) ?_
                      refine k_istore hK (L' := [some (.ref 22), some (.int _), some (.int _), some (.int _), some (.int _), some (.int _)]) ti_92_93 rfl ?_
                      refine k_iinc hK (L' := [some (.ref 22), some (.int _), some (.int _), some (.int _), some (.int _), some (.int (nI (j + 1)))]) ti_92_95 rfl (by rw [kI_1, nI_add]) rfl ?_
                      refine k_goto hK ti_92_98 jt_98_m70 ?_
                      exact ih2 (j + 1) (by omega) (by omega) 
              · obtain rfl : j = g_nA s := by omega
                have hrk : rnk s l c i = cnt (g_nA s) (fun b => fit s l c b && btr (sc s l c) b i) := rfl
                refine k_iload hK ti_92_101 rfl ?_
                refine k_iload_n hK ti_92_103 rfl ?_
                refine kn_ne hK (by omega) (by omega) ti_92_104 jt_104_5 (fun c_104 => ?_) (fun c_104 => ?_)
                · have e3 : fA s l c p = some i := frst_hit (by omega) (by simp [*]) h3
                  rw [e3] at h
                  refine k_iload_n hK ti_92_107 rfl ?_
                  refine k_ireturn hK ti_92_108 rk_92 mc_92 ms_92 (Nat.le_of_ble_eq_true rfl) (Nat.le_of_ble_eq_true rfl) ?_
                  exact h
                · refine k_iinc hK (L' := [some (.ref 22), some (.int _), some (.int _), some (.int (nI (i + 1))), some (.int _), some (.int _)]) ti_92_109 rfl (by rw [kI_1, nI_add]) rfl ?_
                  refine k_goto hK ti_92_112 jt_112_m110 ?_
                  exact ih (i + 1) _ _ (by omega) (by omega) (fun k hk => by by_cases e : k = i; (subst e; simp [*]); exact h3 k (by omega))
          exact loop2 (g_nA s - 0 + 1) 0 (by omega) (by omega) 
      · obtain rfl : i = g_nA s := by omega
        have e3 : fA s l c p = none := frst_none h3
        rw [e3] at h
        refine k_iconst hK ti_92_115 kI_m1 ?_
        refine k_ireturn hK ti_92_116 rk_92 mc_92 ms_92 (Nat.le_of_ble_eq_true rfl) (Nat.le_of_ble_eq_true rfl) ?_
        exact h
  exact loop (g_nA s - 0 + 1) 0 _ _ (by omega) (by omega) (fun k hk => absurd hk (by omega))
