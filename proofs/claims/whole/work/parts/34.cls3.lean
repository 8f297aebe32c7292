/-! The class: fit articles by place, what is told, mean, digest. (written by wip/whole/cls3.py) -/
set_option maxRecDepth 100000 in
set_option maxHeartbeats 4000000 in
theorem sp_X3_someoneIsShort_n {X : dp_X} {d n : Nat} {M : dp_M} {o : Int64} {Q : dp_Q} (h65 : 65 ≤ n) {s : GSt} {l : LSt} (hC : CG M s) (hN : CLn M l) (h : Q (.inl (some (.int (bl (sht s l))))) M o) : dp_run X (d + 4 + 1) 66 [.ref 0, .ref 3] n M o Q := by
  apply k_run
  intro K hK
  rw [mL_66]
  show K 0 [some (.ref 0), some (.ref 3), none, none] [] n 0 0 M o
  have hA16 := hC.w.1
  have hC6 := hC.w.2.1
  refine k_iconst hK ti_66_0 kI_0 ?_
  refine k_istore_n hK (L' := [some (.ref 0), some (.ref 3), some (.int _), none]) ti_66_1 rfl ?_
  have loop : ∀ (f i : Nat) (u : Option Value), i ≤ (g_nC s) → (g_nC s) - i < f → (∀ k, k < i → sht1 s l k = false) → K 2 [some (.ref 0), some (.ref 3), some (.int (nI i)), u] [] n 0 0 M o := by
    intro f
    induction f with
    | zero => intro i u h1 h2; omega
    | succ f ih =>
      intro i u h1 h2 h3
      refine k_iload_n hK ti_66_2 rfl ?_
      refine k_aload_n hK ti_66_3 rfl ?_
      refine k_get hK ti_66_4 ow_66 fd_3_19 (by omega) rfl rfl ?_
      refine k_geti hK (nI (g_nC s)) ti_66_7 ow_66 fd_3_86 (by omega) rfl rfl hC.nC ?_
      refine kn_ge hK (by omega) (by omega) ti_66_10 jt_10_39 (fun c_10 => ?_) (fun c_10 => ?_)
      · refine k_aload_n hK ti_66_13 rfl ?_
        refine k_aload_n hK ti_66_14 rfl ?_
        refine k_iload_n hK ti_66_15 rfl ?_
        refine k_callV hK (as := [.ref 3, .int _]) (st' := []) ti_66_16 ow_66 iv_3_268 mc_66 ms_66 rfl rfl (by omega) (Nat.le_of_ble_eq_true rfl) (Nat.le_of_ble_eq_true rfl) (Nat.le_of_ble_eq_true rfl) (Nat.le_of_ble_eq_true rfl) (by omega) rfl ?_
        refine sp_X3_bestFit_n (by omega) i hC hN (by omega) ?_
        rcases hfa : fA s l i 0 with _ | a
        · have e : sht1 s l i = false := by simp only [sht1, hfa]
          refine k_istore_n hK (L' := [some (.ref 0), some (.ref 3), some (.int _), some (.int _)]) ti_66_19 rfl ?_
          refine k_iload_n hK ti_66_20 rfl ?_
          refine k_iconst hK ti_66_21 kI_m1 ?_
          refine k_icmp_eq hK ti_66_22 jt_22_21 (fun c_22 => ?_) (fun c_22 => ?_)
          · refine k_iinc hK (L' := [some (.ref 0), some (.ref 3), some (.int (nI (i + 1))), some (.int _)]) ti_66_43 rfl (by rw [kI_1, nI_add]) rfl ?_
            refine k_goto hK ti_66_46 jt_46_m44 ?_
            exact ih (i + 1) _ (by omega) (by omega) (fun k hk => by by_cases e2 : k = i; (subst e2; exact e); exact h3 k (by omega))
          · exact absurd rfl c_22
        · have ha := fA_lt hfa
          refine k_istore_n hK (L' := [some (.ref 0), some (.ref 3), some (.int _), some (.int _)]) ti_66_19 rfl ?_
          refine k_iload_n hK ti_66_20 rfl ?_
          refine k_iconst hK ti_66_21 kI_m1 ?_
          refine k_icmp_eq hK ti_66_22 jt_22_21 (fun c_22 => ?_) (fun c_22 => ?_)
          · exact absurd c_22 (nI_nm1 (by omega))
          · refine k_aload_n hK ti_66_25 rfl ?_
            refine k_aload_n hK ti_66_26 rfl ?_
            refine k_iload_n hK ti_66_27 rfl ?_
            refine k_iload_n hK ti_66_28 rfl ?_
            refine k_callV hK (as := [.ref 3, .int _, .int _]) (st' := []) ti_66_29 ow_66 iv_3_271 mc_66 ms_66 rfl rfl (by omega) (Nat.le_of_ble_eq_true rfl) (Nat.le_of_ble_eq_true rfl) (Nat.le_of_ble_eq_true rfl) (Nat.le_of_ble_eq_true rfl) (by omega) rfl ?_
            refine sp_X3_priceFor_n (by omega) i a hC hN (by omega) (by omega) ?_
            refine k_aload_n hK ti_66_32 rfl ?_
            refine k_get hK ti_66_33 ow_66 fd_3_91 (by omega) rfl rfl ?_
            refine k_iload_n hK ti_66_36 rfl ?_
            refine k_ialdv (v := (l_coin l i)) hK i ti_66_37 rfl (by omega) (by omega) rfl (by rw [dpl_15]; omega) (hN.2.2.1 i (by omega)).1 ?_
            refine k_icmp_le hK ti_66_38 jt_38_5 (fun c_38 => ?_) (fun c_38 => ?_)
            · have e : sht1 s l i = true := by simp only [sht1, hfa]; exact decide_eq_true c_38
              have e2 : sht s l = true := by unfold sht; rw [frst_hit c_10 e h3]; rfl
              rw [e2] at h
              refine k_iconst hK ti_66_41 kI_1 ?_
              refine k_zreturn hK ti_66_42 rk_66 mc_66 ms_66 (Nat.le_of_ble_eq_true rfl) (Nat.le_of_ble_eq_true rfl) (by decide) ?_
              exact h
            · have e : sht1 s l i = false := by simp only [sht1, hfa]; exact decide_eq_false c_38
              refine k_iinc hK (L' := [some (.ref 0), some (.ref 3), some (.int (nI (i + 1))), some (.int _)]) ti_66_43 rfl (by rw [kI_1, nI_add]) rfl ?_
              refine k_goto hK ti_66_46 jt_46_m44 ?_
              exact ih (i + 1) _ (by omega) (by omega) (fun k hk => by by_cases e2 : k = i; (subst e2; exact e); exact h3 k (by omega))
      · obtain rfl : i = (g_nC s) := by omega
        have e2 : sht s l = false := by unfold sht; rw [frst_none h3]; rfl
        rw [e2] at h
        refine k_iconst hK ti_66_49 kI_0 ?_
        refine k_zreturn hK ti_66_50 rk_66 mc_66 ms_66 (Nat.le_of_ble_eq_true rfl) (Nat.le_of_ble_eq_true rfl) (by decide) ?_
        exact h
  exact loop ((g_nC s) - 0 + 1) 0 _ (by omega) (by omega) (fun k hk => absurd hk (by omega))

set_option maxRecDepth 100000 in
set_option maxHeartbeats 4000000 in
theorem sp_X3_someoneIsShort_f {X : dp_X} {d n : Nat} {M : dp_M} {o : Int64} {Q : dp_Q} (h65 : 65 ≤ n) {s : GSt} {l : LSt} (hC : CG M s) (hT : CLf M l) (h : Q (.inl (some (.int (bl (sht s l))))) M o) : dp_run X (d + 4 + 1) 66 [.ref 0, .ref 4] n M o Q := by
  apply k_run
  intro K hK
  rw [mL_66]
  show K 0 [some (.ref 0), some (.ref 4), none, none] [] n 0 0 M o
  have hA16 := hC.w.1
  have hC6 := hC.w.2.1
  refine k_iconst hK ti_66_0 kI_0 ?_
  refine k_istore_n hK (L' := [some (.ref 0), some (.ref 4), some (.int _), none]) ti_66_1 rfl ?_
  have loop : ∀ (f i : Nat) (u : Option Value), i ≤ (g_nC s) → (g_nC s) - i < f → (∀ k, k < i → sht1 s l k = false) → K 2 [some (.ref 0), some (.ref 4), some (.int (nI i)), u] [] n 0 0 M o := by
    intro f
    induction f with
    | zero => intro i u h1 h2; omega
    | succ f ih =>
      intro i u h1 h2 h3
      refine k_iload_n hK ti_66_2 rfl ?_
      refine k_aload_n hK ti_66_3 rfl ?_
      refine k_get hK ti_66_4 ow_66 fd_3_19 (by omega) rfl rfl ?_
      refine k_geti hK (nI (g_nC s)) ti_66_7 ow_66 fd_3_86 (by omega) rfl rfl hC.nC ?_
      refine kn_ge hK (by omega) (by omega) ti_66_10 jt_10_39 (fun c_10 => ?_) (fun c_10 => ?_)
      · refine k_aload_n hK ti_66_13 rfl ?_
        refine k_aload_n hK ti_66_14 rfl ?_
        refine k_iload_n hK ti_66_15 rfl ?_
        refine k_callV hK (as := [.ref 4, .int _]) (st' := []) ti_66_16 ow_66 iv_3_268 mc_66 ms_66 rfl rfl (by omega) (Nat.le_of_ble_eq_true rfl) (Nat.le_of_ble_eq_true rfl) (Nat.le_of_ble_eq_true rfl) (Nat.le_of_ble_eq_true rfl) (by omega) rfl ?_
        refine sp_X3_bestFit_f (by omega) i hC hT (by omega) ?_
        rcases hfa : fA s l i 0 with _ | a
        · have e : sht1 s l i = false := by simp only [sht1, hfa]
          refine k_istore_n hK (L' := [some (.ref 0), some (.ref 4), some (.int _), some (.int _)]) ti_66_19 rfl ?_
          refine k_iload_n hK ti_66_20 rfl ?_
          refine k_iconst hK ti_66_21 kI_m1 ?_
          refine k_icmp_eq hK ti_66_22 jt_22_21 (fun c_22 => ?_) (fun c_22 => ?_)
          · refine k_iinc hK (L' := [some (.ref 0), some (.ref 4), some (.int (nI (i + 1))), some (.int _)]) ti_66_43 rfl (by rw [kI_1, nI_add]) rfl ?_
            refine k_goto hK ti_66_46 jt_46_m44 ?_
            exact ih (i + 1) _ (by omega) (by omega) (fun k hk => by by_cases e2 : k = i; (subst e2; exact e); exact h3 k (by omega))
          · exact absurd rfl c_22
        · have ha := fA_lt hfa
          refine k_istore_n hK (L' := [some (.ref 0), some (.ref 4), some (.int _), some (.int _)]) ti_66_19 rfl ?_
          refine k_iload_n hK ti_66_20 rfl ?_
          refine k_iconst hK ti_66_21 kI_m1 ?_
          refine k_icmp_eq hK ti_66_22 jt_22_21 (fun c_22 => ?_) (fun c_22 => ?_)
          · exact absurd c_22 (nI_nm1 (by omega))
          · refine k_aload_n hK ti_66_25 rfl ?_
            refine k_aload_n hK ti_66_26 rfl ?_
            refine k_iload_n hK ti_66_27 rfl ?_
            refine k_iload_n hK ti_66_28 rfl ?_
            refine k_callV hK (as := [.ref 4, .int _, .int _]) (st' := []) ti_66_29 ow_66 iv_3_271 mc_66 ms_66 rfl rfl (by omega) (Nat.le_of_ble_eq_true rfl) (Nat.le_of_ble_eq_true rfl) (Nat.le_of_ble_eq_true rfl) (Nat.le_of_ble_eq_true rfl) (by omega) rfl ?_
            refine sp_X3_priceFor_f (by omega) i a hC hT (by omega) (by omega) ?_
            refine k_aload_n hK ti_66_32 rfl ?_
            refine k_get hK ti_66_33 ow_66 fd_3_91 (by omega) rfl rfl ?_
            refine k_iload_n hK ti_66_36 rfl ?_
            refine k_ialdv (v := (l_coin l i)) hK i ti_66_37 rfl (by omega) (by omega) rfl (by rw [dpl_19]; omega) (hT.2.2.1 i (by omega)).1 ?_
            refine k_icmp_le hK ti_66_38 jt_38_5 (fun c_38 => ?_) (fun c_38 => ?_)
            · have e : sht1 s l i = true := by simp only [sht1, hfa]; exact decide_eq_true c_38
              have e2 : sht s l = true := by unfold sht; rw [frst_hit c_10 e h3]; rfl
              rw [e2] at h
              refine k_iconst hK ti_66_41 kI_1 ?_
              refine k_zreturn hK ti_66_42 rk_66 mc_66 ms_66 (Nat.le_of_ble_eq_true rfl) (Nat.le_of_ble_eq_true rfl) (by decide) ?_
              exact h
            · have e : sht1 s l i = false := by simp only [sht1, hfa]; exact decide_eq_false c_38
              refine k_iinc hK (L' := [some (.ref 0), some (.ref 4), some (.int (nI (i + 1))), some (.int _)]) ti_66_43 rfl (by rw [kI_1, nI_add]) rfl ?_
              refine k_goto hK ti_66_46 jt_46_m44 ?_
              exact ih (i + 1) _ (by omega) (by omega) (fun k hk => by by_cases e2 : k = i; (subst e2; exact e); exact h3 k (by omega))
      · obtain rfl : i = (g_nC s) := by omega
        have e2 : sht s l = false := by unfold sht; rw [frst_none h3]; rfl
        rw [e2] at h
        refine k_iconst hK ti_66_49 kI_0 ?_
        refine k_zreturn hK ti_66_50 rk_66 mc_66 ms_66 (Nat.le_of_ble_eq_true rfl) (Nat.le_of_ble_eq_true rfl) (by decide) ?_
        exact h
  exact loop ((g_nC s) - 0 + 1) 0 _ (by omega) (by omega) (fun k hk => absurd hk (by omega))

set_option maxRecDepth 100000 in
set_option maxHeartbeats 4000000 in
theorem sp_X3_fitArticlesAhead {X : dp_X} {d n : Nat} {M : dp_M} {o : Int64} {Q : dp_Q} (h65 : 65 ≤ n) {s : GSt} {l : LSt} (c a : Nat) (hC : CG M s) (hN : CLn M l) (hc : c < g_nC s) (ha : a < 16) (h : Q (.inl (some (.int (nI (rnk s l c a))))) M o) : dp_run X (d + 3 + 1) 61 [.ref 0, .int (nI c), .int (nI a), .int (sc s l c a)] n M o Q := by
  apply k_run
  intro K hK
  rw [mL_61]
  show K 0 [some (.ref 0), some (.int (nI c)), some (.int (nI a)), some (.int (sc s l c a)), none, none, none, none] [] n 0 0 M o
  have hA16 := hC.w.1
  have hC6 := hC.w.2.1
  refine k_iconst hK ti_61_0 kI_0 ?_
  refine k_istore hK (L' := [some (.ref 0), some (.int _), some (.int _), some (.int _), some (.int _), none, none, none]) ti_61_1 rfl ?_
  refine k_iconst hK ti_61_3 kI_0 ?_
  refine k_istore hK (L' := [some (.ref 0), some (.int _), some (.int _), some (.int _), some (.int _), some (.int _), none, none]) ti_61_4 rfl ?_
  have loop : ∀ (f i : Nat) (u : Option Value) (v : Option Value), i ≤ (g_nA s) → (g_nA s) - i < f → K 6 [some (.ref 0), some (.int (nI c)), some (.int (nI a)), some (.int (sc s l c a)), some (.int (nI (cnt i (fun b => fit s l c b && btr (sc s l c) b a)))), some (.int (nI i)), u, v] [] n 0 0 M o := by
    intro f
    induction f with
    | zero => intro i u v h1 h2; omega
    | succ f ih =>
      intro i u v h1 h2
      refine k_iload hK ti_61_6 rfl ?_
      refine k_aload_n hK ti_61_8 rfl ?_
      refine k_get hK ti_61_9 ow_61 fd_3_10 (by omega) rfl rfl ?_
      refine k_geti hK (nI (g_nA s)) ti_61_12 ow_61 fd_3_50 (by omega) rfl rfl hC.nA ?_
      refine kn_ge hK (by omega) (by omega) ti_61_15 jt_15_71 (fun c_15 => ?_) (fun c_15 => ?_)
      · refine k_aload_n hK ti_61_18 rfl ?_
        refine k_aload_n hK ti_61_19 rfl ?_
        refine k_get hK ti_61_20 ow_61 fd_3_26 (by omega) rfl rfl ?_
        refine k_iload_n hK ti_61_23 rfl ?_
        refine k_iload hK ti_61_24 rfl ?_
        refine k_callV hK (as := [.ref 3, .int _, .int _]) (st' := []) ti_61_26 ow_61 iv_3_156 mc_61 ms_61 rfl rfl (by omega) (Nat.le_of_ble_eq_true rfl) (Nat.le_of_ble_eq_true rfl) (Nat.le_of_ble_eq_true rfl) (Nat.le_of_ble_eq_true rfl) (by omega) rfl ?_
        refine sp_X3_scoreFor_n (by omega) c i hC hN (by omega) (by omega) ?_
        refine k_istore hK (L' := [some (.ref 0), some (.int _), some (.int _), some (.int _), some (.int _), some (.int _), some (.int _), v]) ti_61_29 rfl ?_
        refine k_iload hK ti_61_31 rfl ?_
        refine k_iload_n hK ti_61_33 rfl ?_
        refine k_icmp_gt hK ti_61_34 jt_34_15 (fun c_34 => ?_) (fun c_34 => ?_)
        · refine k_iconst hK ti_61_49 kI_1 ?_
          refine k_goto hK ti_61_50 jt_50_4 ?_
          refine k_istore hK (L' := [some (.ref 0), some (.int _), some (.int _), some (.int _), some (.int _), some (.int _), some (.int _), some (.int _)]) ti_61_54 rfl ?_
          refine k_iload hK ti_61_56 rfl ?_
          refine kz_eq hK (by omega) ti_61_58 jt_58_22 (fun c_58 => ?_) (fun c_58 => ?_)
          · exact absurd c_58 (by decide)
          · refine k_aload_n hK ti_61_61 rfl ?_
            refine k_aload_n hK ti_61_62 rfl ?_
            refine k_get hK ti_61_63 ow_61 fd_3_26 (by omega) rfl rfl ?_
            refine k_iload_n hK ti_61_66 rfl ?_
            refine k_iload hK ti_61_67 rfl ?_
            refine k_iload hK ti_61_69 rfl ?_
            refine k_callV hK (as := [.ref 3, .int _, .int _, .int _]) (st' := []) ti_61_71 ow_61 iv_3_251 mc_61 ms_61 rfl rfl (by omega) (Nat.le_of_ble_eq_true rfl) (Nat.le_of_ble_eq_true rfl) (Nat.le_of_ble_eq_true rfl) (Nat.le_of_ble_eq_true rfl) (by omega) rfl ?_
            refine sp_X3_isFit_n (by omega) c i ((sc s l c i)) hC hN (by omega) (by omega) (k_aftv (bl (fit s l c i)) (congrArg bl (Bool.and_comm _ _)) ?_)
            refine kb_eq hK ti_61_74 jt_74_6 (fun c_74 => ?_) (fun c_74 => ?_)
            · · rw [← (cnt_f (by simp [btr, *]) : cnt (i + 1) (fun b => fit s l c b && btr (sc s l c) b a) = cnt i (fun b => fit s l c b && btr (sc s l c) b a))]
                refine k_iinc hK (L' := [some (.ref 0), some (.int _), some (.int _), some (.int _), some (.int _), some (.int (nI (i + 1))), some (.int _), some (.int _)]) ti_61_80 rfl (by rw [kI_1, nI_add]) rfl ?_
                refine k_goto hK ti_61_83 jt_83_m77 ?_
                exact ih (i + 1) _ _ (by omega) (by omega) 
            · refine k_iinc hK (L' := [some (.ref 0), some (.int _), some (.int _), some (.int _), some (.int (nI (cnt (i + 1) (fun b => fit s l c b && btr (sc s l c) b a)))), some (.int _), some (.int _), some (.int _)]) ti_61_77 rfl (by rw [cnt_t (by simp [btr, *]), kI_1, nI_add]) rfl ?_
              refine k_iinc hK (L' := [some (.ref 0), some (.int _), some (.int _), some (.int _), some (.int _), some (.int (nI (i + 1))), some (.int _), some (.int _)]) ti_61_80 rfl (by rw [kI_1, nI_add]) rfl ?_
              refine k_goto hK ti_61_83 jt_83_m77 ?_
              exact ih (i + 1) _ _ (by omega) (by omega) 
        · refine k_iload hK ti_61_37 rfl ?_
          refine k_iload_n hK ti_61_39 rfl ?_
          refine k_icmp_ne hK ti_61_40 jt_40_13 (fun c_40 => ?_) (fun c_40 => ?_)
          · refine k_iload hK ti_61_43 rfl ?_
            refine k_iload_n hK ti_61_45 rfl ?_
            refine kn_ge hK (by omega) (by omega) ti_61_46 jt_46_7 (fun c_46 => ?_) (fun c_46 => ?_)
            · refine k_iconst hK ti_61_49 kI_1 ?_
              refine k_goto hK ti_61_50 jt_50_4 ?_
              refine k_istore hK (L' := [some (.ref 0), some (.int _), some (.int _), some (.int _), some (.int _), some (.int _), some (.int _), some (.int _)]) ti_61_54 rfl ?_
              refine k_iload hK ti_61_56 rfl ?_
              refine kz_eq hK (by omega) ti_61_58 jt_58_22 (fun c_58 => ?_) (fun c_58 => ?_)
              · exact absurd c_58 (by decide)
              · refine k_aload_n hK ti_61_61 rfl ?_
                refine k_aload_n hK ti_61_62 rfl ?_
                refine k_get hK ti_61_63 ow_61 fd_3_26 (by omega) rfl rfl ?_
                refine k_iload_n hK ti_61_66 rfl ?_
                refine k_iload hK ti_61_67 rfl ?_
                refine k_iload hK ti_61_69 rfl ?_
                refine k_callV hK (as := [.ref 3, .int _, .int _, .int _]) (st' := []) ti_61_71 ow_61 iv_3_251 mc_61 ms_61 rfl rfl (by omega) (Nat.le_of_ble_eq_true rfl) (Nat.le_of_ble_eq_true rfl) (Nat.le_of_ble_eq_true rfl) (Nat.le_of_ble_eq_true rfl) (by omega) rfl ?_
                refine sp_X3_isFit_n (by omega) c i ((sc s l c i)) hC hN (by omega) (by omega) (k_aftv (bl (fit s l c i)) (congrArg bl (Bool.and_comm _ _)) ?_)
                refine kb_eq hK ti_61_74 jt_74_6 (fun c_74 => ?_) (fun c_74 => ?_)
                · · rw [← (cnt_f (by simp [btr, *]) : cnt (i + 1) (fun b => fit s l c b && btr (sc s l c) b a) = cnt i (fun b => fit s l c b && btr (sc s l c) b a))]
                    refine k_iinc hK (L' := [some (.ref 0), some (.int _), some (.int _), some (.int _), some (.int _), some (.int (nI (i + 1))), some (.int _), some (.int _)]) ti_61_80 rfl (by rw [kI_1, nI_add]) rfl ?_
                    refine k_goto hK ti_61_83 jt_83_m77 ?_
                    exact ih (i + 1) _ _ (by omega) (by omega) 
                · refine k_iinc hK (L' := [some (.ref 0), some (.int _), some (.int _), some (.int _), some (.int (nI (cnt (i + 1) (fun b => fit s l c b && btr (sc s l c) b a)))), some (.int _), some (.int _), some (.int _)]) ti_61_77 rfl (by rw [cnt_t (by simp [btr, *]), kI_1, nI_add]) rfl ?_
                  refine k_iinc hK (L' := [some (.ref 0), some (.int _), some (.int _), some (.int _), some (.int _), some (.int (nI (i + 1))), some (.int _), some (.int _)]) ti_61_80 rfl (by rw [kI_1, nI_add]) rfl ?_
                  refine k_goto hK ti_61_83 jt_83_m77 ?_
                  exact ih (i + 1) _ _ (by omega) (by omega) 
            · refine k_iconst hK ti_61_53 kI_0 ?_
              refine k_istore hK (L' := [some (.ref 0), some (.int _), some (.int _), some (.int _), some (.int _), some (.int _), some (.int _), some (.int _)]) ti_61_54 rfl ?_
              refine k_iload hK ti_61_56 rfl ?_
              refine kz_eq hK (by omega) ti_61_58 jt_58_22 (fun c_58 => ?_) (fun c_58 => ?_)
              · · rw [← (cnt_f (by simp [btr, *]) : cnt (i + 1) (fun b => fit s l c b && btr (sc s l c) b a) = cnt i (fun b => fit s l c b && btr (sc s l c) b a))]
                  refine k_iinc hK (L' := [some (.ref 0), some (.int _), some (.int _), some (.int _), some (.int _), some (.int (nI (i + 1))), some (.int _), some (.int _)]) ti_61_80 rfl (by rw [kI_1, nI_add]) rfl ?_
                  refine k_goto hK ti_61_83 jt_83_m77 ?_
                  exact ih (i + 1) _ _ (by omega) (by omega) 
              · exact absurd rfl c_58
          · refine k_iconst hK ti_61_53 kI_0 ?_
            refine k_istore hK (L' := [some (.ref 0), some (.int _), some (.int _), some (.int _), some (.int _), some (.int _), some (.int _), some (.int _)]) ti_61_54 rfl ?_
            refine k_iload hK ti_61_56 rfl ?_
            refine kz_eq hK (by omega) ti_61_58 jt_58_22 (fun c_58 => ?_) (fun c_58 => ?_)
            · · rw [← (cnt_f (by simp [btr, *]) : cnt (i + 1) (fun b => fit s l c b && btr (sc s l c) b a) = cnt i (fun b => fit s l c b && btr (sc s l c) b a))]
                refine k_iinc hK (L' := [some (.ref 0), some (.int _), some (.int _), some (.int _), some (.int _), some (.int (nI (i + 1))), some (.int _), some (.int _)]) ti_61_80 rfl (by rw [kI_1, nI_add]) rfl ?_
                refine k_goto hK ti_61_83 jt_83_m77 ?_
                exact ih (i + 1) _ _ (by omega) (by omega) 
            · exact absurd rfl c_58
      · obtain rfl : i = (g_nA s) := by omega
        refine k_iload hK ti_61_86 rfl ?_
        refine k_ireturn hK ti_61_88 rk_61 mc_61 ms_61 (Nat.le_of_ble_eq_true rfl) (Nat.le_of_ble_eq_true rfl) ?_
        exact h
  exact loop ((g_nA s) - 0 + 1) 0 _ _ (by omega) (by omega) 

set_option maxRecDepth 100000 in
set_option maxHeartbeats 4000000 in
theorem sp_X3_fitArticleAt {X : dp_X} {d n : Nat} {M : dp_M} {o : Int64} {Q : dp_Q} (h65 : 65 ≤ n) {s : GSt} {l : LSt} (c p : Nat) (hC : CG M s) (hN : CLn M l) (hc : c < g_nC s) (hp : p < 2 ^ 31) (h : Q (.inl (some (.int (oI (fA s l c p))))) M o) : dp_run X (d + 4 + 1) 60 [.ref 0, .int (nI c), .int (nI p)] n M o Q := by
  apply k_run
  intro K hK
  rw [mL_60]
  show K 0 [some (.ref 0), some (.int (nI c)), some (.int (nI p)), none, none] [] n 0 0 M o
  have hA16 := hC.w.1
  have hC6 := hC.w.2.1
  refine k_iconst hK ti_60_0 kI_0 ?_
  refine k_istore_n hK (L' := [some (.ref 0), some (.int _), some (.int _), some (.int _), none]) ti_60_1 rfl ?_
  have loop : ∀ (f i : Nat) (u : Option Value), i ≤ (g_nA s) → (g_nA s) - i < f → (∀ k, k < i → (fit s l c k && decide (rnk s l c k = p)) = false) → K 2 [some (.ref 0), some (.int (nI c)), some (.int (nI p)), some (.int (nI i)), u] [] n 0 0 M o := by
    intro f
    induction f with
    | zero => intro i u h1 h2; omega
    | succ f ih =>
      intro i u h1 h2 h3
      refine k_iload_n hK ti_60_2 rfl ?_
      refine k_aload_n hK ti_60_3 rfl ?_
      refine k_get hK ti_60_4 ow_60 fd_3_10 (by omega) rfl rfl ?_
      refine k_geti hK (nI (g_nA s)) ti_60_7 ow_60 fd_3_50 (by omega) rfl rfl hC.nA ?_
      refine kn_ge hK (by omega) (by omega) ti_60_10 jt_10_50 (fun c_10 => ?_) (fun c_10 => ?_)
      · have hrk : rnk s l c i ≤ g_nA s := cnt_le _ _
        refine k_aload_n hK ti_60_13 rfl ?_
        refine k_aload_n hK ti_60_14 rfl ?_
        refine k_get hK ti_60_15 ow_60 fd_3_26 (by omega) rfl rfl ?_
        refine k_iload_n hK ti_60_18 rfl ?_
        refine k_iload_n hK ti_60_19 rfl ?_
        refine k_callV hK (as := [.ref 3, .int _, .int _]) (st' := []) ti_60_20 ow_60 iv_3_156 mc_60 ms_60 rfl rfl (by omega) (Nat.le_of_ble_eq_true rfl) (Nat.le_of_ble_eq_true rfl) (Nat.le_of_ble_eq_true rfl) (Nat.le_of_ble_eq_true rfl) (by omega) rfl ?_
        refine sp_X3_scoreFor_n (by omega) c i hC hN (by omega) (by omega) ?_
        refine k_istore hK (L' := [some (.ref 0), some (.int _), some (.int _), some (.int _), some (.int _)]) ti_60_23 rfl ?_
        refine k_aload_n hK ti_60_25 rfl ?_
        refine k_aload_n hK ti_60_26 rfl ?_
        refine k_get hK ti_60_27 ow_60 fd_3_26 (by omega) rfl rfl ?_
        refine k_iload_n hK ti_60_30 rfl ?_
        refine k_iload_n hK ti_60_31 rfl ?_
        refine k_iload hK ti_60_32 rfl ?_
        refine k_callV hK (as := [.ref 3, .int _, .int _, .int _]) (st' := []) ti_60_34 ow_60 iv_3_251 mc_60 ms_60 rfl rfl (by omega) (Nat.le_of_ble_eq_true rfl) (Nat.le_of_ble_eq_true rfl) (Nat.le_of_ble_eq_true rfl) (Nat.le_of_ble_eq_true rfl) (by omega) rfl ?_
        refine sp_X3_isFit_n (by omega) c i ((sc s l c i)) hC hN (by omega) (by omega) (k_aftv (bl (fit s l c i)) (congrArg bl (Bool.and_comm _ _)) ?_)
        refine kb_eq hK ti_60_37 jt_37_17 (fun c_37 => ?_) (fun c_37 => ?_)
        · refine k_iinc hK (L' := [some (.ref 0), some (.int _), some (.int _), some (.int (nI (i + 1))), some (.int _)]) ti_60_54 rfl (by rw [kI_1, nI_add]) rfl ?_
          refine k_goto hK ti_60_57 jt_57_m55 ?_
          exact ih (i + 1) _ (by omega) (by omega) (fun k hk => by by_cases e : k = i; (subst e; simp [*]); exact h3 k (by omega))
        · refine k_aload_n hK ti_60_40 rfl ?_
          refine k_iload_n hK ti_60_41 rfl ?_
          refine k_iload_n hK ti_60_42 rfl ?_
          refine k_iload hK ti_60_43 rfl ?_
          refine k_callV hK (as := [.int _, .int _, .int _]) (st' := []) ti_60_45 ow_60 iv_3_255 mc_60 ms_60 rfl rfl (by omega) (Nat.le_of_ble_eq_true rfl) (Nat.le_of_ble_eq_true rfl) (Nat.le_of_ble_eq_true rfl) (Nat.le_of_ble_eq_true rfl) (by omega) rfl ?_
          refine sp_X3_fitArticlesAhead (by omega) c i hC hN (by omega) (by omega) ?_
          refine k_iload_n hK ti_60_48 rfl ?_
          refine kn_ne hK (by omega) (by omega) ti_60_49 jt_49_5 (fun c_49 => ?_) (fun c_49 => ?_)
          · have e3 : fA s l c p = some i := frst_hit (by omega) (by simp [*]) h3
            rw [e3] at h
            refine k_iload_n hK ti_60_52 rfl ?_
            refine k_ireturn hK ti_60_53 rk_60 mc_60 ms_60 (Nat.le_of_ble_eq_true rfl) (Nat.le_of_ble_eq_true rfl) ?_
            exact h
          · refine k_iinc hK (L' := [some (.ref 0), some (.int _), some (.int _), some (.int (nI (i + 1))), some (.int _)]) ti_60_54 rfl (by rw [kI_1, nI_add]) rfl ?_
            refine k_goto hK ti_60_57 jt_57_m55 ?_
            exact ih (i + 1) _ (by omega) (by omega) (fun k hk => by by_cases e : k = i; (subst e; simp [*]); exact h3 k (by omega))
      · obtain rfl : i = (g_nA s) := by omega
        have e3 : fA s l c p = none := frst_none h3
        rw [e3] at h
        refine k_iconst hK ti_60_60 kI_m1 ?_
        refine k_ireturn hK ti_60_61 rk_60 mc_60 ms_60 (Nat.le_of_ble_eq_true rfl) (Nat.le_of_ble_eq_true rfl) ?_
        exact h
  exact loop ((g_nA s) - 0 + 1) 0 _ (by omega) (by omega) (fun k hk => absurd hk (by omega))

set_option maxRecDepth 100000 in
set_option maxHeartbeats 4000000 in
theorem sp_X3_tellOfArticle {X : dp_X} {d n : Nat} {M : dp_M} {o : Int64} {Q : dp_Q} (h65 : 65 ≤ n) {s : GSt} {l : LSt} (a w : Nat) (hC : CG M s) (hN : CLn M l) (hV : WFL s l) (ha : a < 16) (hw : w < 4) (h : Q (.inl (some (.int (aT s l a w)))) M o) : dp_run X (d + 2 + 1) 53 [.ref 0, .int (nI a), .int (nI w)] n M o Q := by
  apply k_run
  intro K hK
  rw [mL_53]
  show K 0 [some (.ref 0), some (.int (nI a)), some (.int (nI w))] [] n 0 0 M o
  have hA16 := hC.w.1
  have hC6 := hC.w.2.1
  refine k_iload_n hK ti_53_0 rfl ?_
  have hw7 : w = 0 ∨ w = 1 ∨ w = 2 ∨ w = 3 := by omega
  rcases hw7 with rfl | rfl | rfl | rfl
  · refine k_swl hK (off := 27) ti_53_1 (by decide) rfl (by decide) jt_1_27 ?_
    refine k_aload_n hK ti_53_28 rfl ?_
    refine k_get hK ti_53_29 ow_53 fd_3_10 (by omega) rfl rfl ?_
    refine k_get hK ti_53_32 ow_53 fd_3_64 (by omega) rfl rfl ?_
    refine k_iload_n hK ti_53_35 rfl ?_
    refine k_ialdv (v := (nI (g_len s a))) hK a ti_53_36 rfl (by omega) (by omega) rfl (by rw [dpl_8]; omega) (hC.len a (by omega)) ?_
    refine k_ireturn hK ti_53_37 rk_53 mc_53 ms_53 (Nat.le_of_ble_eq_true rfl) (Nat.le_of_ble_eq_true rfl) ?_
    exact h
  · refine k_swl hK (off := 37) ti_53_1 (by decide) rfl (by decide) jt_1_37 ?_
    refine k_aload_n hK ti_53_38 rfl ?_
    refine k_get hK ti_53_39 ow_53 fd_3_10 (by omega) rfl rfl ?_
    refine k_iload_n hK ti_53_42 rfl ?_
    refine k_callV hK (as := [.int _]) (st' := []) ti_53_43 ow_53 iv_3_214 mc_53 ms_53 rfl rfl (by omega) (Nat.le_of_ble_eq_true rfl) (Nat.le_of_ble_eq_true rfl) (Nat.le_of_ble_eq_true rfl) (Nat.le_of_ble_eq_true rfl) (by omega) rfl ?_
    refine sp_X2_stemsOf (by omega) a hC (by omega) ?_
    refine k_ireturn hK ti_53_46 rk_53 mc_53 ms_53 (Nat.le_of_ble_eq_true rfl) (Nat.le_of_ble_eq_true rfl) ?_
    exact h
  · refine k_swl hK (off := 46) ti_53_1 (by decide) rfl (by decide) jt_1_46 ?_
    refine k_aload_n hK ti_53_47 rfl ?_
    refine k_get hK ti_53_48 ow_53 fd_3_26 (by omega) rfl rfl ?_
    refine k_get hK ti_53_51 ow_53 fd_3_217 (by omega) rfl rfl ?_
    refine k_iload_n hK ti_53_54 rfl ?_
    refine k_ialdv (v := (l_age l a)) hK a ti_53_55 rfl (by omega) (by omega) rfl (by rw [dpl_14]; omega) (hN.2.1 a (by omega)) ?_
    refine k_ireturn hK ti_53_56 rk_53 mc_53 ms_53 (Nat.le_of_ble_eq_true rfl) (Nat.le_of_ble_eq_true rfl) ?_
    exact h
  · refine k_swd hK ti_53_1 (by decide) (by decide) (by decide) jt_1_56 ?_
    refine k_aload_n hK ti_53_57 rfl ?_
    refine k_get hK ti_53_58 ow_53 fd_3_26 (by omega) rfl rfl ?_
    refine k_iload_n hK ti_53_61 rfl ?_
    refine k_callV hK (as := [.int _]) (st' := []) ti_53_62 ow_53 iv_3_220 mc_53 ms_53 rfl rfl (by omega) (Nat.le_of_ble_eq_true rfl) (Nat.le_of_ble_eq_true rfl) (Nat.le_of_ble_eq_true rfl) (Nat.le_of_ble_eq_true rfl) (by omega) rfl ?_
    refine sp_X0_receivers (by omega) a hC hN hV (by omega) ?_
    refine k_ireturn hK ti_53_65 rk_53 mc_53 ms_53 (Nat.le_of_ble_eq_true rfl) (Nat.le_of_ble_eq_true rfl) ?_
    exact h

set_option maxRecDepth 100000 in
set_option maxHeartbeats 4000000 in
theorem sp_X3_tellOfClient {X : dp_X} {d n : Nat} {M : dp_M} {o : Int64} {Q : dp_Q} (h65 : 65 ≤ n) {s : GSt} {l : LSt} (c w : Nat) (hC : CG M s) (hN : CLn M l) (hV : WFL s l) (hc : c < g_nC s) (hw : w < 6) (h : Q (.inl (some (.int (cT s l c w)))) M o) : dp_run X (d + 4 + 1) 54 [.ref 0, .int (nI c), .int (nI w)] n M o Q := by
  apply k_run
  intro K hK
  rw [mL_54]
  show K 0 [some (.ref 0), some (.int (nI c)), some (.int (nI w))] [] n 0 0 M o
  have hA16 := hC.w.1
  have hC6 := hC.w.2.1
  have hs16 := hN.1 c (by omega)
  refine k_iload_n hK ti_54_0 rfl ?_
  have hw7 : w = 0 ∨ w = 1 ∨ w = 2 ∨ w = 3 ∨ w = 4 ∨ w = 5 := by omega
  rcases hw7 with rfl | rfl | rfl | rfl | rfl | rfl
  · refine k_swl hK (off := 35) ti_54_1 (by decide) rfl (by decide) jt_1_35 ?_
    refine k_aload_n hK ti_54_36 rfl ?_
    refine k_get hK ti_54_37 ow_54 fd_3_26 (by omega) rfl rfl ?_
    refine k_get hK ti_54_40 ow_54 fd_3_91 (by omega) rfl rfl ?_
    refine k_iload_n hK ti_54_43 rfl ?_
    refine k_ialdv (v := (l_coin l c)) hK c ti_54_44 rfl (by omega) (by omega) rfl (by rw [dpl_15]; omega) (hN.2.2.1 c (by omega)).1 ?_
    refine k_ireturn hK ti_54_45 rk_54 mc_54 ms_54 (Nat.le_of_ble_eq_true rfl) (Nat.le_of_ble_eq_true rfl) ?_
    exact h
  · refine k_swl hK (off := 45) ti_54_1 (by decide) rfl (by decide) jt_1_45 ?_
    refine k_aload_n hK ti_54_46 rfl ?_
    refine k_get hK ti_54_47 ow_54 fd_3_19 (by omega) rfl rfl ?_
    refine k_get hK ti_54_50 ow_54 fd_3_97 (by omega) rfl rfl ?_
    refine k_iload_n hK ti_54_53 rfl ?_
    refine k_ialdv (v := (nI (g_many s c))) hK c ti_54_54 rfl (by omega) (by omega) rfl (by rw [dpl_12]; omega) (hC.many c (by omega)) ?_
    refine k_ireturn hK ti_54_55 rk_54 mc_54 ms_54 (Nat.le_of_ble_eq_true rfl) (Nat.le_of_ble_eq_true rfl) ?_
    exact h
  · refine k_swl hK (off := 55) ti_54_1 (by decide) rfl (by decide) jt_1_55 ?_
    refine k_aload_n hK ti_54_56 rfl ?_
    refine k_get hK ti_54_57 ow_54 fd_3_19 (by omega) rfl rfl ?_
    refine k_get hK ti_54_60 ow_54 fd_3_115 (by omega) rfl rfl ?_
    refine k_iload_n hK ti_54_63 rfl ?_
    refine k_ialdv (v := (g_bar s c)) hK c ti_54_64 rfl (by omega) (by omega) rfl (by rw [dpl_13]; omega) (hC.bar c (by omega)) ?_
    refine k_ireturn hK ti_54_65 rk_54 mc_54 ms_54 (Nat.le_of_ble_eq_true rfl) (Nat.le_of_ble_eq_true rfl) ?_
    exact h
  · refine k_swl hK (off := 65) ti_54_1 (by decide) rfl (by decide) jt_1_65 ?_
    refine k_aload_n hK ti_54_66 rfl ?_
    refine k_get hK ti_54_67 ow_54 fd_3_26 (by omega) rfl rfl ?_
    refine k_get hK ti_54_70 ow_54 fd_3_223 (by omega) rfl rfl ?_
    refine k_iload_n hK ti_54_73 rfl ?_
    refine k_ialdv (v := (nI (l_sent l c))) hK c ti_54_74 rfl (by omega) (by omega) rfl (by rw [dpl_17]; omega) (hN.2.2.1 c (by omega)).2.2 ?_
    refine k_callS hK (as := [.int _]) (st' := []) ti_54_75 ow_54 iv_3_226 mc_54 ms_54 rfl rfl (by omega) (Nat.le_of_ble_eq_true rfl) (Nat.le_of_ble_eq_true rfl) (Nat.le_of_ble_eq_true rfl) (Nat.le_of_ble_eq_true rfl) ?_
    refine sp_J6_bitCount (by omega) (l_sent l c) (by omega) (k_aftv (nI (snt s l c)) (congrArg nI (hV.pc hC.w (by omega))) ?_)
    refine k_ireturn hK ti_54_78 rk_54 mc_54 ms_54 (Nat.le_of_ble_eq_true rfl) (Nat.le_of_ble_eq_true rfl) ?_
    exact h
  · refine k_swl hK (off := 78) ti_54_1 (by decide) rfl (by decide) jt_1_78 ?_
    refine k_aload_n hK ti_54_79 rfl ?_
    refine k_get hK ti_54_80 ow_54 fd_3_26 (by omega) rfl rfl ?_
    refine k_get hK ti_54_83 ow_54 fd_3_231 (by omega) rfl rfl ?_
    refine k_iload_n hK ti_54_86 rfl ?_
    refine k_ialdv (v := (l_paid l c)) hK c ti_54_87 rfl (by omega) (by omega) rfl (by rw [dpl_16]; omega) (hN.2.2.1 c (by omega)).2.1 ?_
    refine k_ireturn hK ti_54_88 rk_54 mc_54 ms_54 (Nat.le_of_ble_eq_true rfl) (Nat.le_of_ble_eq_true rfl) ?_
    exact h
  · refine k_swd hK ti_54_1 (by decide) (by decide) (by decide) jt_1_88 ?_
    refine k_aload_n hK ti_54_89 rfl ?_
    refine k_iload_n hK ti_54_90 rfl ?_
    refine k_callV hK (as := [.int _]) (st' := []) ti_54_91 ow_54 iv_3_160 mc_54 ms_54 rfl rfl (by omega) (Nat.le_of_ble_eq_true rfl) (Nat.le_of_ble_eq_true rfl) (Nat.le_of_ble_eq_true rfl) (Nat.le_of_ble_eq_true rfl) (by omega) rfl ?_
    refine sp_X3_fitArticles (by omega) c hC hN (by omega) ?_
    refine k_ireturn hK ti_54_94 rk_54 mc_54 ms_54 (Nat.le_of_ble_eq_true rfl) (Nat.le_of_ble_eq_true rfl) ?_
    exact h

set_option maxRecDepth 100000 in
set_option maxHeartbeats 4000000 in
theorem sp_X3_tellOfAll {X : dp_X} {d n : Nat} {M : dp_M} {o : Int64} {Q : dp_Q} (h65 : 65 ≤ n) {s : GSt} {l : LSt} (w : Nat) (hC : CG M s) (hN : CLn M l) (hV : WFL s l) (hw : w < 7) (h : Q (.inl (some (.int (nT s l w)))) M o) : dp_run X (d + 2 + 1) 55 [.ref 0, .int (nI w)] n M o Q := by
  apply k_run
  intro K hK
  rw [mL_55]
  show K 0 [some (.ref 0), some (.int (nI w))] [] n 0 0 M o
  have hA16 := hC.w.1
  have hC6 := hC.w.2.1
  refine k_iload_n hK ti_55_0 rfl ?_
  have hw7 : w = 0 ∨ w = 1 ∨ w = 2 ∨ w = 3 ∨ w = 4 ∨ w = 5 ∨ w = 6 := by omega
  rcases hw7 with rfl | rfl | rfl | rfl | rfl | rfl | rfl
  · refine k_swl hK (off := 39) ti_55_1 (by decide) rfl (by decide) jt_1_39 ?_
    refine k_aload_n hK ti_55_40 rfl ?_
    refine k_get hK ti_55_41 ow_55 fd_3_10 (by omega) rfl rfl ?_
    refine k_geti hK (nI (g_nA s)) ti_55_44 ow_55 fd_3_50 (by omega) rfl rfl hC.nA ?_
    refine k_ireturn hK ti_55_47 rk_55 mc_55 ms_55 (Nat.le_of_ble_eq_true rfl) (Nat.le_of_ble_eq_true rfl) ?_
    exact h
  · refine k_swl hK (off := 47) ti_55_1 (by decide) rfl (by decide) jt_1_47 ?_
    refine k_aload_n hK ti_55_48 rfl ?_
    refine k_get hK ti_55_49 ow_55 fd_3_19 (by omega) rfl rfl ?_
    refine k_geti hK (nI (g_nC s)) ti_55_52 ow_55 fd_3_86 (by omega) rfl rfl hC.nC ?_
    refine k_ireturn hK ti_55_55 rk_55 mc_55 ms_55 (Nat.le_of_ble_eq_true rfl) (Nat.le_of_ble_eq_true rfl) ?_
    exact h
  · refine k_swl hK (off := 55) ti_55_1 (by decide) rfl (by decide) jt_1_55 ?_
    refine k_aload_n hK ti_55_56 rfl ?_
    refine k_get hK ti_55_57 ow_55 fd_3_10 (by omega) rfl rfl ?_
    refine k_callV hK (as := []) (st' := []) ti_55_60 ow_55 iv_3_234 mc_55 ms_55 rfl rfl (by omega) (Nat.le_of_ble_eq_true rfl) (Nat.le_of_ble_eq_true rfl) (Nat.le_of_ble_eq_true rfl) (Nat.le_of_ble_eq_true rfl) (by omega) rfl ?_
    refine sp_X2_wordsInAll (by omega)  hC  ?_
    refine k_ireturn hK ti_55_63 rk_55 mc_55 ms_55 (Nat.le_of_ble_eq_true rfl) (Nat.le_of_ble_eq_true rfl) ?_
    exact h
  · refine k_swl hK (off := 63) ti_55_1 (by decide) rfl (by decide) jt_1_63 ?_
    refine k_aload_n hK ti_55_64 rfl ?_
    refine k_get hK ti_55_65 ow_55 fd_3_10 (by omega) rfl rfl ?_
    refine k_callV hK (as := []) (st' := []) ti_55_68 ow_55 iv_3_237 mc_55 ms_55 rfl rfl (by omega) (Nat.le_of_ble_eq_true rfl) (Nat.le_of_ble_eq_true rfl) (Nat.le_of_ble_eq_true rfl) (Nat.le_of_ble_eq_true rfl) (by omega) rfl ?_
    refine sp_X2_stemsInAll (by omega)  hC  ?_
    refine k_ireturn hK ti_55_71 rk_55 mc_55 ms_55 (Nat.le_of_ble_eq_true rfl) (Nat.le_of_ble_eq_true rfl) ?_
    exact h
  · refine k_swl hK (off := 71) ti_55_1 (by decide) rfl (by decide) jt_1_71 ?_
    refine k_aload_n hK ti_55_72 rfl ?_
    refine k_get hK ti_55_73 ow_55 fd_3_26 (by omega) rfl rfl ?_
    refine k_geti hK (l_rnd l) ti_55_76 ow_55 fd_3_240 (by omega) rfl rfl hN.2.2.2 ?_
    refine k_ireturn hK ti_55_79 rk_55 mc_55 ms_55 (Nat.le_of_ble_eq_true rfl) (Nat.le_of_ble_eq_true rfl) ?_
    exact h
  · refine k_swl hK (off := 79) ti_55_1 (by decide) rfl (by decide) jt_1_79 ?_
    refine k_aload_n hK ti_55_80 rfl ?_
    refine k_get hK ti_55_81 ow_55 fd_3_26 (by omega) rfl rfl ?_
    refine k_callV hK (as := []) (st' := []) ti_55_84 ow_55 iv_3_132 mc_55 ms_55 rfl rfl (by omega) (Nat.le_of_ble_eq_true rfl) (Nat.le_of_ble_eq_true rfl) (Nat.le_of_ble_eq_true rfl) (Nat.le_of_ble_eq_true rfl) (by omega) rfl ?_
    refine sp_X0_sentInAll (by omega) hC hN hV ?_
    refine k_ireturn hK ti_55_87 rk_55 mc_55 ms_55 (Nat.le_of_ble_eq_true rfl) (Nat.le_of_ble_eq_true rfl) ?_
    exact h
  · refine k_swd hK ti_55_1 (by decide) (by decide) (by decide) jt_1_87 ?_
    refine k_aload_n hK ti_55_88 rfl ?_
    refine k_get hK ti_55_89 ow_55 fd_3_26 (by omega) rfl rfl ?_
    refine k_callV hK (as := []) (st' := []) ti_55_92 ow_55 iv_3_180 mc_55 ms_55 rfl rfl (by omega) (Nat.le_of_ble_eq_true rfl) (Nat.le_of_ble_eq_true rfl) (Nat.le_of_ble_eq_true rfl) (Nat.le_of_ble_eq_true rfl) (by omega) rfl ?_
    refine sp_X0_paidInAll (by omega) hC hN hV ?_
    refine k_ireturn hK ti_55_95 rk_55 mc_55 ms_55 (Nat.le_of_ble_eq_true rfl) (Nat.le_of_ble_eq_true rfl) ?_
    exact h

set_option maxRecDepth 100000 in
set_option maxHeartbeats 4000000 in
theorem sp_X3_mean {X : dp_X} {d n : Nat} {M : dp_M} {o : Int64} {Q : dp_Q} (h65 : 65 ≤ n) {s : GSt} {l : LSt} (hC : CG M s) (hN : CLn M l) (hV : WFL s l) (h : Q (.inl (some (.double (men s l)))) M o) : dp_run X (d + 2 + 1) 41 [.ref 0] n M o Q := by
  apply k_run
  intro K hK
  rw [mL_41]
  show K 0 [some (.ref 0), none] [] n 0 0 M o
  have hA16 := hC.w.1
  have hC6 := hC.w.2.1
  have hsn : sntA s l ≤ g_nC s * 16 := sN_le (fun k hk => Nat.le_trans (cnt_le _ _) hA16)
  refine k_aload_n hK ti_41_0 rfl ?_
  refine k_get hK ti_41_1 ow_41 fd_3_26 (by omega) rfl rfl ?_
  refine k_callV hK (as := []) (st' := []) ti_41_4 ow_41 iv_3_132 mc_41 ms_41 rfl rfl (by omega) (Nat.le_of_ble_eq_true rfl) (Nat.le_of_ble_eq_true rfl) (Nat.le_of_ble_eq_true rfl) (Nat.le_of_ble_eq_true rfl) (by omega) rfl ?_
  refine sp_X0_sentInAll (by omega) hC hN hV ?_
  refine k_istore_n hK (L' := [some (.ref 0), some (.int _)]) ti_41_7 rfl ?_
  refine k_iload_n hK ti_41_8 rfl ?_
  refine kz_gt hK (by omega) ti_41_9 jt_9_5 (fun c_9 => ?_) (fun c_9 => ?_)
  · have e : men s l = FP.ddiv (FP.i2d (pdA s l)) (FP.i2d (nI (sntA s l))) := by unfold men; rw [if_neg (by omega)]
    rw [e] at h
    refine k_aload_n hK ti_41_14 rfl ?_
    refine k_get hK ti_41_15 ow_41 fd_3_26 (by omega) rfl rfl ?_
    refine k_callV hK (as := []) (st' := []) ti_41_18 ow_41 iv_3_180 mc_41 ms_41 rfl rfl (by omega) (Nat.le_of_ble_eq_true rfl) (Nat.le_of_ble_eq_true rfl) (Nat.le_of_ble_eq_true rfl) (Nat.le_of_ble_eq_true rfl) (by omega) rfl ?_
    refine sp_X0_paidInAll (by omega) hC hN hV ?_
    refine k_i2d hK ti_41_21 ?_
    refine k_iload_n hK ti_41_22 rfl ?_
    refine k_i2d hK ti_41_23 ?_
    refine k_ddiv hK ti_41_24 (men_nn (by omega) (by omega)) ?_
    refine k_dreturn hK ti_41_25 rk_41 mc_41 ms_41 (Nat.le_of_ble_eq_true rfl) (Nat.le_of_ble_eq_true rfl) ?_
    exact h
  · have e : men s l = FP.dconst0 := by unfold men; rw [if_pos (by omega)]
    rw [e] at h
    refine k_dconst hK ti_41_12 ?_
    refine k_dreturn hK ti_41_13 rk_41 mc_41 ms_41 (Nat.le_of_ble_eq_true rfl) (Nat.le_of_ble_eq_true rfl) ?_
    exact h

set_option maxRecDepth 100000 in
set_option maxHeartbeats 4000000 in
theorem sp_X3_mix {X : dp_X} {d n : Nat} {M : dp_M} {o : Int64} {Q : dp_Q} (h65 : 65 ≤ n) (d0 : Int64) (x : Int32) (z : Int64) (hz : mxx d0 x = z) (h : Q (.inl (some (.long z))) M o) : dp_run X (d + 0 + 1) 45 [.long d0, .int x] n M o Q := by
  apply k_run
  intro K hK
  rw [mL_45]
  show K 0 [some (.long d0), none, some (.int x)] [] n 0 0 M o
  refine k_lload_n hK ti_45_0 rfl ?_
  refine k_ldc2_w (x := 31) hK ti_45_1 (by rw [ow_45]; exact lcj_195) ?_
  refine k_lmul hK ti_45_4 ?_
  refine k_iload_n hK ti_45_5 rfl ?_
  refine k_i2l hK ti_45_6 ?_
  refine k_laddv hK ti_45_7 hz ?_
  refine k_lreturn hK ti_45_8 rk_45 mc_45 ms_45 (Nat.le_of_ble_eq_true rfl) (Nat.le_of_ble_eq_true rfl) ?_
  exact h

set_option maxRecDepth 100000 in
set_option maxHeartbeats 4000000 in
theorem sp_X3_mixArticle {X : dp_X} {d n : Nat} {M : dp_M} {o : Int64} {Q : dp_Q} (h65 : 65 ≤ n) {s : GSt} {l : LSt} (a : Nat) (d0 : Int64) (hC : CG M s) (hN : CLn M l) (hV : WFL s l) (ha : a < 16) (h : Q (.inl (some (.long (dgA s l a d0)))) M o) : dp_run X (d + 3 + 1) 43 [.ref 0, .long d0, .int (nI a)] n M o Q := by
  apply k_run
  intro K hK
  rw [mL_43]
  show K 0 [some (.ref 0), some (.long d0), none, some (.int (nI a)), none, none, none] [] n 0 0 M o
  have hA16 := hC.w.1
  have hC6 := hC.w.2.1
  have hlen := hC.w.2.2.2.1 a ha
  refine k_lload_n hK ti_43_0 rfl ?_
  refine k_lstore hK (L' := [some (.ref 0), some (.long _), none, some (.int _), some (.long _), none, none]) ti_43_1 rfl ?_
  refine k_iconst hK ti_43_3 kI_0 ?_
  refine k_istore hK (L' := [some (.ref 0), some (.long _), none, some (.int _), some (.long _), none, some (.int _)]) ti_43_4 rfl ?_
  suffices hx : K 32 [some (.ref 0), some (.long d0), none, some (.int (nI a)), some (.long (fol 4 (fun w d => mxx d (aT s l a w)) d0)), none, some (.int (nI 4))] [] n 0 0 M o by
    have loop : ∀ (f i : Nat), i ≤ 4 → 4 - i < f → K 6 [some (.ref 0), some (.long d0), none, some (.int (nI a)), some (.long (fol i (fun w d => mxx d (aT s l a w)) d0)), none, some (.int (nI i))] [] n 0 0 M o := by
      intro f
      induction f with
      | zero => intro i h1 h2; omega
      | succ f ih =>
        intro i h1 h2
        refine k_iload hK ti_43_6 rfl ?_
        refine k_iconst hK ti_43_8 kI_4 ?_
        refine kn_ge hK (by omega) (by omega) ti_43_9 jt_9_23 (fun c_9 => ?_) (fun c_9 => ?_)
        · refine k_lload hK ti_43_12 rfl ?_
          refine k_aload_n hK ti_43_14 rfl ?_
          refine k_iload_n hK ti_43_15 rfl ?_
          refine k_iload hK ti_43_16 rfl ?_
          refine k_callV hK (as := [.int _, .int _]) (st' := [.long _]) ti_43_18 ow_43 iv_3_143 mc_43 ms_43 rfl rfl (by omega) (Nat.le_of_ble_eq_true rfl) (Nat.le_of_ble_eq_true rfl) (Nat.le_of_ble_eq_true rfl) (Nat.le_of_ble_eq_true rfl) (by omega) rfl ?_
          refine sp_X3_tellOfArticle (by omega) a i hC hN hV (by omega) (by omega) ?_
          refine k_callS hK (as := [.long _, .int _]) (st' := []) ti_43_21 ow_43 iv_3_185 mc_43 ms_43 rfl rfl (by omega) (Nat.le_of_ble_eq_true rfl) (Nat.le_of_ble_eq_true rfl) (Nat.le_of_ble_eq_true rfl) (Nat.le_of_ble_eq_true rfl) ?_
          refine sp_X3_mix (by omega) _ _ (fol (i + 1) (fun w d => mxx d (aT s l a w)) d0) (fol_x (fun _ => rfl)) ?_
          refine k_lstore hK (L' := [some (.ref 0), some (.long _), none, some (.int _), some (.long _), none, some (.int _)]) ti_43_24 rfl ?_
          refine k_iinc hK (L' := [some (.ref 0), some (.long _), none, some (.int _), some (.long _), none, some (.int (nI (i + 1)))]) ti_43_26 rfl (by rw [kI_1, nI_add]) rfl ?_
          refine k_goto hK ti_43_29 jt_29_m23 ?_
          exact ih (i + 1) (by omega) (by omega) 
        · obtain rfl : i = 4 := by omega
          exact hx
    exact loop (4 - 0 + 1) 0 (by omega) (by omega) 
  refine k_iconst hK ti_43_32 kI_0 ?_
  refine k_istore hK (L' := [some (.ref 0), some (.long _), none, some (.int _), some (.long _), none, some (.int _)]) ti_43_33 rfl ?_
  suffices hxb : K 74 [some (.ref 0), some (.long d0), none, some (.int (nI a)), some (.long (fol (g_len s a) (fun k d => mxx d (nI (g_wd s a k))) (fol 4 (fun w d => mxx d (aT s l a w)) d0))), none, some (.int (nI ((g_len s a))))] [] n 0 0 M o by
    have loopb : ∀ (fb i : Nat), i ≤ (g_len s a) → (g_len s a) - i < fb → K 35 [some (.ref 0), some (.long d0), none, some (.int (nI a)), some (.long (fol i (fun k d => mxx d (nI (g_wd s a k))) (fol 4 (fun w d => mxx d (aT s l a w)) d0))), none, some (.int (nI i))] [] n 0 0 M o := by
      intro fb
      induction fb with
      | zero => intro i h1b h2b; omega
      | succ fb ihb =>
        intro i h1b h2b
        refine k_iload hK ti_43_35 rfl ?_
        refine k_aload_n hK ti_43_37 rfl ?_
        refine k_get hK ti_43_38 ow_43 fd_3_10 (by omega) rfl rfl ?_
        refine k_get hK ti_43_41 ow_43 fd_3_64 (by omega) rfl rfl ?_
        refine k_iload_n hK ti_43_44 rfl ?_
        refine k_ialdv (v := (nI (g_len s a))) hK a ti_43_45 rfl (by omega) (by omega) rfl (by rw [dpl_8]; omega) (hC.len a (by omega)) ?_
        refine kn_ge hK (by omega) (by omega) ti_43_46 jt_46_28 (fun c_46 => ?_) (fun c_46 => ?_)
        · refine k_lload hK ti_43_49 rfl ?_
          refine k_aload_n hK ti_43_51 rfl ?_
          refine k_get hK ti_43_52 ow_43 fd_3_10 (by omega) rfl rfl ?_
          refine k_get hK ti_43_55 ow_43 fd_3_69 (by omega) rfl rfl ?_
          refine k_iload_n hK ti_43_58 rfl ?_
          refine k_aald7 hK a ti_43_59 (by omega) rfl (by omega) ?_
          refine k_iload hK ti_43_60 rfl ?_
          refine k_ialdv (v := (nI (g_wd s a i))) hK i ti_43_62 (dp_isA_t _ (by omega)) (by omega) (by omega) rfl (by rw [dpl_27 _ (by omega)]; omega) (hC.wd a i (by omega) (by omega)) ?_
          refine k_callS hK (as := [.long _, .int _]) (st' := []) ti_43_63 ow_43 iv_3_185 mc_43 ms_43 rfl rfl (by omega) (Nat.le_of_ble_eq_true rfl) (Nat.le_of_ble_eq_true rfl) (Nat.le_of_ble_eq_true rfl) (Nat.le_of_ble_eq_true rfl) ?_
          refine sp_X3_mix (by omega) _ _ (fol (i + 1) (fun k d => mxx d (nI (g_wd s a k))) (fol 4 (fun w d => mxx d (aT s l a w)) d0)) (fol_x (fun _ => rfl)) ?_
          refine k_lstore hK (L' := [some (.ref 0), some (.long _), none, some (.int _), some (.long _), none, some (.int _)]) ti_43_66 rfl ?_
          refine k_iinc hK (L' := [some (.ref 0), some (.long _), none, some (.int _), some (.long _), none, some (.int (nI (i + 1)))]) ti_43_68 rfl (by rw [kI_1, nI_add]) rfl ?_
          refine k_goto hK ti_43_71 jt_71_m36 ?_
          exact ihb (i + 1) (by omega) (by omega) 
        · obtain rfl : i = (g_len s a) := by omega
          exact hxb
    exact loopb ((g_len s a) - 0 + 1) 0 (by omega) (by omega) 
  refine k_lload hK ti_43_74 rfl ?_
  refine k_lreturn hK ti_43_76 rk_43 mc_43 ms_43 (Nat.le_of_ble_eq_true rfl) (Nat.le_of_ble_eq_true rfl) ?_
  rw [dgA_u] at h
  exact h

set_option maxRecDepth 100000 in
set_option maxHeartbeats 4000000 in
theorem sp_X3_mixClient {X : dp_X} {d n : Nat} {M : dp_M} {o : Int64} {Q : dp_Q} (h65 : 65 ≤ n) {s : GSt} {l : LSt} (c : Nat) (d0 : Int64) (hC : CG M s) (hN : CLn M l) (hV : WFL s l) (hc : c < g_nC s) (h : Q (.inl (some (.long (dgC s l c d0)))) M o) : dp_run X (d + 5 + 1) 44 [.ref 0, .long d0, .int (nI c)] n M o Q := by
  apply k_run
  intro K hK
  rw [mL_44]
  show K 0 [some (.ref 0), some (.long d0), none, some (.int (nI c)), none, none, none] [] n 0 0 M o
  have hA16 := hC.w.1
  have hC6 := hC.w.2.1
  have hm5 := hC.w.2.2.2.2.2.1 c (by omega)
  refine k_lload_n hK ti_44_0 rfl ?_
  refine k_lstore hK (L' := [some (.ref 0), some (.long _), none, some (.int _), some (.long _), none, none]) ti_44_1 rfl ?_
  refine k_iconst hK ti_44_3 kI_0 ?_
  refine k_istore hK (L' := [some (.ref 0), some (.long _), none, some (.int _), some (.long _), none, some (.int _)]) ti_44_4 rfl ?_
  suffices hx : K 33 [some (.ref 0), some (.long d0), none, some (.int (nI c)), some (.long (fol 6 (fun w d => mxx d (cT s l c w)) d0)), none, some (.int (nI 6))] [] n 0 0 M o by
    have loop : ∀ (f i : Nat), i ≤ 6 → 6 - i < f → K 6 [some (.ref 0), some (.long d0), none, some (.int (nI c)), some (.long (fol i (fun w d => mxx d (cT s l c w)) d0)), none, some (.int (nI i))] [] n 0 0 M o := by
      intro f
      induction f with
      | zero => intro i h1 h2; omega
      | succ f ih =>
        intro i h1 h2
        refine k_iload hK ti_44_6 rfl ?_
        refine k_bipush hK ti_44_8 kB_6 ?_
        refine kn_ge hK (by omega) (by omega) ti_44_10 jt_10_23 (fun c_10 => ?_) (fun c_10 => ?_)
        · refine k_lload hK ti_44_13 rfl ?_
          refine k_aload_n hK ti_44_15 rfl ?_
          refine k_iload_n hK ti_44_16 rfl ?_
          refine k_iload hK ti_44_17 rfl ?_
          refine k_callV hK (as := [.int _, .int _]) (st' := [.long _]) ti_44_19 ow_44 iv_3_146 mc_44 ms_44 rfl rfl (by omega) (Nat.le_of_ble_eq_true rfl) (Nat.le_of_ble_eq_true rfl) (Nat.le_of_ble_eq_true rfl) (Nat.le_of_ble_eq_true rfl) (by omega) rfl ?_
          refine sp_X3_tellOfClient (by omega) c i hC hN hV (by omega) (by omega) ?_
          refine k_callS hK (as := [.long _, .int _]) (st' := []) ti_44_22 ow_44 iv_3_185 mc_44 ms_44 rfl rfl (by omega) (Nat.le_of_ble_eq_true rfl) (Nat.le_of_ble_eq_true rfl) (Nat.le_of_ble_eq_true rfl) (Nat.le_of_ble_eq_true rfl) ?_
          refine sp_X3_mix (by omega) _ _ (fol (i + 1) (fun w d => mxx d (cT s l c w)) d0) (fol_x (fun _ => rfl)) ?_
          refine k_lstore hK (L' := [some (.ref 0), some (.long _), none, some (.int _), some (.long _), none, some (.int _)]) ti_44_25 rfl ?_
          refine k_iinc hK (L' := [some (.ref 0), some (.long _), none, some (.int _), some (.long _), none, some (.int (nI (i + 1)))]) ti_44_27 rfl (by rw [kI_1, nI_add]) rfl ?_
          refine k_goto hK ti_44_30 jt_30_m24 ?_
          exact ih (i + 1) (by omega) (by omega) 
        · obtain rfl : i = 6 := by omega
          exact hx
    exact loop (6 - 0 + 1) 0 (by omega) (by omega) 
  refine k_iconst hK ti_44_33 kI_0 ?_
  refine k_istore hK (L' := [some (.ref 0), some (.long _), none, some (.int _), some (.long _), none, some (.int _)]) ti_44_34 rfl ?_
  suffices hxb : K 75 [some (.ref 0), some (.long d0), none, some (.int (nI c)), some (.long (fol (g_many s c) (fun k d => mxx d (nI (g_wish s c k))) (fol 6 (fun w d => mxx d (cT s l c w)) d0))), none, some (.int (nI ((g_many s c))))] [] n 0 0 M o by
    have loopb : ∀ (fb i : Nat), i ≤ (g_many s c) → (g_many s c) - i < fb → K 36 [some (.ref 0), some (.long d0), none, some (.int (nI c)), some (.long (fol i (fun k d => mxx d (nI (g_wish s c k))) (fol 6 (fun w d => mxx d (cT s l c w)) d0))), none, some (.int (nI i))] [] n 0 0 M o := by
      intro fb
      induction fb with
      | zero => intro i h1b h2b; omega
      | succ fb ihb =>
        intro i h1b h2b
        refine k_iload hK ti_44_36 rfl ?_
        refine k_aload_n hK ti_44_38 rfl ?_
        refine k_get hK ti_44_39 ow_44 fd_3_19 (by omega) rfl rfl ?_
        refine k_get hK ti_44_42 ow_44 fd_3_97 (by omega) rfl rfl ?_
        refine k_iload_n hK ti_44_45 rfl ?_
        refine k_ialdv (v := (nI (g_many s c))) hK c ti_44_46 rfl (by omega) (by omega) rfl (by rw [dpl_12]; omega) (hC.many c (by omega)) ?_
        refine kn_ge hK (by omega) (by omega) ti_44_47 jt_47_28 (fun c_47 => ?_) (fun c_47 => ?_)
        · refine k_lload hK ti_44_50 rfl ?_
          refine k_aload_n hK ti_44_52 rfl ?_
          refine k_get hK ti_44_53 ow_44 fd_3_19 (by omega) rfl rfl ?_
          refine k_get hK ti_44_56 ow_44 fd_3_108 (by omega) rfl rfl ?_
          refine k_iload_n hK ti_44_59 rfl ?_
          refine k_aald11 hK c ti_44_60 (by omega) rfl (by omega) ?_
          refine k_iload hK ti_44_61 rfl ?_
          refine k_ialdv (v := (nI (g_wish s c i))) hK i ti_44_63 (dp_isA_t _ (by omega)) (by omega) (by omega) rfl (by rw [dpl_59 _ (by omega)]; omega) (hC.wish c i (by omega) (by omega)) ?_
          refine k_callS hK (as := [.long _, .int _]) (st' := []) ti_44_64 ow_44 iv_3_185 mc_44 ms_44 rfl rfl (by omega) (Nat.le_of_ble_eq_true rfl) (Nat.le_of_ble_eq_true rfl) (Nat.le_of_ble_eq_true rfl) (Nat.le_of_ble_eq_true rfl) ?_
          refine sp_X3_mix (by omega) _ _ (fol (i + 1) (fun k d => mxx d (nI (g_wish s c k))) (fol 6 (fun w d => mxx d (cT s l c w)) d0)) (fol_x (fun _ => rfl)) ?_
          refine k_lstore hK (L' := [some (.ref 0), some (.long _), none, some (.int _), some (.long _), none, some (.int _)]) ti_44_67 rfl ?_
          refine k_iinc hK (L' := [some (.ref 0), some (.long _), none, some (.int _), some (.long _), none, some (.int (nI (i + 1)))]) ti_44_69 rfl (by rw [kI_1, nI_add]) rfl ?_
          refine k_goto hK ti_44_72 jt_72_m36 ?_
          exact ihb (i + 1) (by omega) (by omega) 
        · obtain rfl : i = (g_many s c) := by omega
          exact hxb
    exact loopb ((g_many s c) - 0 + 1) 0 (by omega) (by omega) 
  refine k_iconst hK ti_44_75 kI_0 ?_
  refine k_istore hK (L' := [some (.ref 0), some (.long _), none, some (.int _), some (.long _), none, some (.int _)]) ti_44_76 rfl ?_
  suffices hxc : K 114 [some (.ref 0), some (.long d0), none, some (.int (nI c)), some (.long (fol (g_nA s) (fun a d => mxx d (sc s l c a)) (fol (g_many s c) (fun k d => mxx d (nI (g_wish s c k))) (fol 6 (fun w d => mxx d (cT s l c w)) d0)))), none, some (.int (nI ((g_nA s))))] [] n 0 0 M o by
    have loopc : ∀ (fc i : Nat), i ≤ (g_nA s) → (g_nA s) - i < fc → K 78 [some (.ref 0), some (.long d0), none, some (.int (nI c)), some (.long (fol i (fun a d => mxx d (sc s l c a)) (fol (g_many s c) (fun k d => mxx d (nI (g_wish s c k))) (fol 6 (fun w d => mxx d (cT s l c w)) d0)))), none, some (.int (nI i))] [] n 0 0 M o := by
      intro fc
      induction fc with
      | zero => intro i h1c h2c; omega
      | succ fc ihc =>
        intro i h1c h2c
        refine k_iload hK ti_44_78 rfl ?_
        refine k_aload_n hK ti_44_80 rfl ?_
        refine k_get hK ti_44_81 ow_44 fd_3_10 (by omega) rfl rfl ?_
        refine k_geti hK (nI (g_nA s)) ti_44_84 ow_44 fd_3_50 (by omega) rfl rfl hC.nA ?_
        refine kn_ge hK (by omega) (by omega) ti_44_87 jt_87_27 (fun c_87 => ?_) (fun c_87 => ?_)
        · refine k_lload hK ti_44_90 rfl ?_
          refine k_aload_n hK ti_44_92 rfl ?_
          refine k_aload_n hK ti_44_93 rfl ?_
          refine k_get hK ti_44_94 ow_44 fd_3_26 (by omega) rfl rfl ?_
          refine k_iload_n hK ti_44_97 rfl ?_
          refine k_iload hK ti_44_98 rfl ?_
          refine k_callV hK (as := [.ref 3, .int _, .int _]) (st' := [.long _]) ti_44_100 ow_44 iv_3_156 mc_44 ms_44 rfl rfl (by omega) (Nat.le_of_ble_eq_true rfl) (Nat.le_of_ble_eq_true rfl) (Nat.le_of_ble_eq_true rfl) (Nat.le_of_ble_eq_true rfl) (by omega) rfl ?_
          refine sp_X3_scoreFor_n (by omega) c i hC hN (by omega) (by omega) ?_
          refine k_callS hK (as := [.long _, .int _]) (st' := []) ti_44_103 ow_44 iv_3_185 mc_44 ms_44 rfl rfl (by omega) (Nat.le_of_ble_eq_true rfl) (Nat.le_of_ble_eq_true rfl) (Nat.le_of_ble_eq_true rfl) (Nat.le_of_ble_eq_true rfl) ?_
          refine sp_X3_mix (by omega) _ _ (fol (i + 1) (fun a d => mxx d (sc s l c a)) (fol (g_many s c) (fun k d => mxx d (nI (g_wish s c k))) (fol 6 (fun w d => mxx d (cT s l c w)) d0))) (fol_x (fun _ => rfl)) ?_
          refine k_lstore hK (L' := [some (.ref 0), some (.long _), none, some (.int _), some (.long _), none, some (.int _)]) ti_44_106 rfl ?_
          refine k_iinc hK (L' := [some (.ref 0), some (.long _), none, some (.int _), some (.long _), none, some (.int (nI (i + 1)))]) ti_44_108 rfl (by rw [kI_1, nI_add]) rfl ?_
          refine k_goto hK ti_44_111 jt_111_m33 ?_
          exact ihc (i + 1) (by omega) (by omega) 
        · obtain rfl : i = (g_nA s) := by omega
          exact hxc
    exact loopc ((g_nA s) - 0 + 1) 0 (by omega) (by omega) 
  refine k_lload hK ti_44_114 rfl ?_
  refine k_lreturn hK ti_44_116 rk_44 mc_44 ms_44 (Nat.le_of_ble_eq_true rfl) (Nat.le_of_ble_eq_true rfl) ?_
  rw [dgC_u] at h
  exact h

set_option maxRecDepth 100000 in
set_option maxHeartbeats 4000000 in
theorem sp_X3_digest {X : dp_X} {d n : Nat} {M : dp_M} {o : Int64} {Q : dp_Q} (h65 : 65 ≤ n) {s : GSt} {l : LSt} (hC : CG M s) (hN : CLn M l) (hV : WFL s l) (h : Q (.inl (some (.long (dig s l)))) M o) : dp_run X (d + 6 + 1) 42 [.ref 0] n M o Q := by
  apply k_run
  intro K hK
  rw [mL_42]
  show K 0 [some (.ref 0), none, none, none] [] n 0 0 M o
  have hA16 := hC.w.1
  have hC6 := hC.w.2.1
  refine k_ldc2_w (x := 1451) hK ti_42_0 (by rw [ow_42]; exact lcj_183) ?_
  refine k_lstore_n hK (L' := [some (.ref 0), some (.long _), none, none]) ti_42_3 rfl ?_
  refine k_iconst hK ti_42_4 kI_0 ?_
  refine k_istore_n hK (L' := [some (.ref 0), some (.long _), none, some (.int _)]) ti_42_5 rfl ?_
  suffices hx : K 28 [some (.ref 0), some (.long (fol 7 (fun w d => mxx d (nT s l w)) 1451)), none, some (.int (nI 7))] [] n 0 0 M o by
    have loop : ∀ (f i : Nat), i ≤ 7 → 7 - i < f → K 6 [some (.ref 0), some (.long (fol i (fun w d => mxx d (nT s l w)) 1451)), none, some (.int (nI i))] [] n 0 0 M o := by
      intro f
      induction f with
      | zero => intro i h1 h2; omega
      | succ f ih =>
        intro i h1 h2
        refine k_iload_n hK ti_42_6 rfl ?_
        refine k_bipush hK ti_42_7 kB_7 ?_
        refine kn_ge hK (by omega) (by omega) ti_42_9 jt_9_19 (fun c_9 => ?_) (fun c_9 => ?_)
        · refine k_lload_n hK ti_42_12 rfl ?_
          refine k_aload_n hK ti_42_13 rfl ?_
          refine k_iload_n hK ti_42_14 rfl ?_
          refine k_callV hK (as := [.int _]) (st' := [.long _]) ti_42_15 ow_42 iv_3_149 mc_42 ms_42 rfl rfl (by omega) (Nat.le_of_ble_eq_true rfl) (Nat.le_of_ble_eq_true rfl) (Nat.le_of_ble_eq_true rfl) (Nat.le_of_ble_eq_true rfl) (by omega) rfl ?_
          refine sp_X3_tellOfAll (by omega) i hC hN hV (by omega) ?_
          refine k_callS hK (as := [.long _, .int _]) (st' := []) ti_42_18 ow_42 iv_3_185 mc_42 ms_42 rfl rfl (by omega) (Nat.le_of_ble_eq_true rfl) (Nat.le_of_ble_eq_true rfl) (Nat.le_of_ble_eq_true rfl) (Nat.le_of_ble_eq_true rfl) ?_
          refine sp_X3_mix (by omega) _ _ (fol (i + 1) (fun w d => mxx d (nT s l w)) 1451) (fol_x (fun _ => rfl)) ?_
          refine k_lstore_n hK (L' := [some (.ref 0), some (.long _), none, some (.int _)]) ti_42_21 rfl ?_
          refine k_iinc hK (L' := [some (.ref 0), some (.long _), none, some (.int (nI (i + 1)))]) ti_42_22 rfl (by rw [kI_1, nI_add]) rfl ?_
          refine k_goto hK ti_42_25 jt_25_m19 ?_
          exact ih (i + 1) (by omega) (by omega) 
        · obtain rfl : i = 7 := by omega
          exact hx
    rw [← fol_0 (fun w d => mxx d (nT s l w)) 1451]
    exact loop (7 - 0 + 1) 0 (by omega) (by omega) 
  generalize hD1 : fol 7 (fun w d => mxx d (nT s l w)) 1451 = D1
  refine k_iconst hK ti_42_28 kI_0 ?_
  refine k_istore_n hK (L' := [some (.ref 0), some (.long _), none, some (.int _)]) ti_42_29 rfl ?_
  suffices hxb : K 56 [some (.ref 0), some (.long (fol 40 (fun w d => mxx d (nI (g_st s w))) D1)), none, some (.int (nI 40))] [] n 0 0 M o by
    have loopb : ∀ (fb i : Nat), i ≤ 40 → 40 - i < fb → K 30 [some (.ref 0), some (.long (fol i (fun w d => mxx d (nI (g_st s w))) D1)), none, some (.int (nI i))] [] n 0 0 M o := by
      intro fb
      induction fb with
      | zero => intro i h1b h2b; omega
      | succ fb ihb =>
        intro i h1b h2b
        refine k_iload_n hK ti_42_30 rfl ?_
        refine k_bipush hK ti_42_31 kB_40 ?_
        refine kn_ge hK (by omega) (by omega) ti_42_33 jt_33_23 (fun c_33 => ?_) (fun c_33 => ?_)
        · refine k_lload_n hK ti_42_36 rfl ?_
          refine k_aload_n hK ti_42_37 rfl ?_
          refine k_get hK ti_42_38 ow_42 fd_3_10 (by omega) rfl rfl ?_
          refine k_get hK ti_42_41 ow_42 fd_3_44 (by omega) rfl rfl ?_
          refine k_iload_n hK ti_42_44 rfl ?_
          refine k_ialdv (v := (nI (g_st s i))) hK i ti_42_45 rfl (by omega) (by omega) rfl (by rw [dpl_6]; omega) (hC.st i (by omega)) ?_
          refine k_callS hK (as := [.long _, .int _]) (st' := []) ti_42_46 ow_42 iv_3_185 mc_42 ms_42 rfl rfl (by omega) (Nat.le_of_ble_eq_true rfl) (Nat.le_of_ble_eq_true rfl) (Nat.le_of_ble_eq_true rfl) (Nat.le_of_ble_eq_true rfl) ?_
          refine sp_X3_mix (by omega) _ _ (fol (i + 1) (fun w d => mxx d (nI (g_st s w))) D1) (fol_x (fun _ => rfl)) ?_
          refine k_lstore_n hK (L' := [some (.ref 0), some (.long _), none, some (.int _)]) ti_42_49 rfl ?_
          refine k_iinc hK (L' := [some (.ref 0), some (.long _), none, some (.int (nI (i + 1)))]) ti_42_50 rfl (by rw [kI_1, nI_add]) rfl ?_
          refine k_goto hK ti_42_53 jt_53_m23 ?_
          exact ihb (i + 1) (by omega) (by omega) 
        · obtain rfl : i = 40 := by omega
          exact hxb
    rw [← fol_0 (fun w d => mxx d (nI (g_st s w))) D1]
    exact loopb (40 - 0 + 1) 0 (by omega) (by omega) 
  generalize hD2 : fol 40 (fun w d => mxx d (nI (g_st s w))) D1 = D2
  refine k_iconst hK ti_42_56 kI_0 ?_
  refine k_istore_n hK (L' := [some (.ref 0), some (.long _), none, some (.int _)]) ti_42_57 rfl ?_
  suffices hxc : K 82 [some (.ref 0), some (.long (fol (g_nA s) (dgA s l) D2)), none, some (.int (nI ((g_nA s))))] [] n 0 0 M o by
    have loopc : ∀ (fc i : Nat), i ≤ (g_nA s) → (g_nA s) - i < fc → K 58 [some (.ref 0), some (.long (fol i (dgA s l) D2)), none, some (.int (nI i))] [] n 0 0 M o := by
      intro fc
      induction fc with
      | zero => intro i h1c h2c; omega
      | succ fc ihc =>
        intro i h1c h2c
        refine k_iload_n hK ti_42_58 rfl ?_
        refine k_aload_n hK ti_42_59 rfl ?_
        refine k_get hK ti_42_60 ow_42 fd_3_10 (by omega) rfl rfl ?_
        refine k_geti hK (nI (g_nA s)) ti_42_63 ow_42 fd_3_50 (by omega) rfl rfl hC.nA ?_
        refine kn_ge hK (by omega) (by omega) ti_42_66 jt_66_16 (fun c_66 => ?_) (fun c_66 => ?_)
        · refine k_aload_n hK ti_42_69 rfl ?_
          refine k_lload_n hK ti_42_70 rfl ?_
          refine k_iload_n hK ti_42_71 rfl ?_
          refine k_callV hK (as := [.long _, .int _]) (st' := []) ti_42_72 ow_42 iv_3_189 mc_42 ms_42 rfl rfl (by omega) (Nat.le_of_ble_eq_true rfl) (Nat.le_of_ble_eq_true rfl) (Nat.le_of_ble_eq_true rfl) (Nat.le_of_ble_eq_true rfl) (by omega) rfl ?_
          refine sp_X3_mixArticle (by omega) i _ hC hN hV (by omega) ?_
          refine k_lstore_n hK (L' := [some (.ref 0), some (.long _), none, some (.int _)]) ti_42_75 rfl ?_
          refine k_iinc hK (L' := [some (.ref 0), some (.long _), none, some (.int (nI (i + 1)))]) ti_42_76 rfl (by rw [kI_1, nI_add]) rfl ?_
          refine k_goto hK ti_42_79 jt_79_m21 ?_
          rw [← fol_S i (dgA s l) D2]
          exact ihc (i + 1) (by omega) (by omega) 
        · obtain rfl : i = (g_nA s) := by omega
          exact hxc
    rw [← fol_0 (dgA s l) D2]
    exact loopc ((g_nA s) - 0 + 1) 0 (by omega) (by omega) 
  generalize hD3 : fol (g_nA s) (dgA s l) D2 = D3
  refine k_iconst hK ti_42_82 kI_0 ?_
  refine k_istore_n hK (L' := [some (.ref 0), some (.long _), none, some (.int _)]) ti_42_83 rfl ?_
  suffices hxd : K 108 [some (.ref 0), some (.long (fol (g_nC s) (dgC s l) D3)), none, some (.int (nI ((g_nC s))))] [] n 0 0 M o by
    have loopd : ∀ (fd i : Nat), i ≤ (g_nC s) → (g_nC s) - i < fd → K 84 [some (.ref 0), some (.long (fol i (dgC s l) D3)), none, some (.int (nI i))] [] n 0 0 M o := by
      intro fd
      induction fd with
      | zero => intro i h1d h2d; omega
      | succ fd ihd =>
        intro i h1d h2d
        refine k_iload_n hK ti_42_84 rfl ?_
        refine k_aload_n hK ti_42_85 rfl ?_
        refine k_get hK ti_42_86 ow_42 fd_3_19 (by omega) rfl rfl ?_
        refine k_geti hK (nI (g_nC s)) ti_42_89 ow_42 fd_3_86 (by omega) rfl rfl hC.nC ?_
        refine kn_ge hK (by omega) (by omega) ti_42_92 jt_92_16 (fun c_92 => ?_) (fun c_92 => ?_)
        · refine k_aload_n hK ti_42_95 rfl ?_
          refine k_lload_n hK ti_42_96 rfl ?_
          refine k_iload_n hK ti_42_97 rfl ?_
          refine k_callV hK (as := [.long _, .int _]) (st' := []) ti_42_98 ow_42 iv_3_192 mc_42 ms_42 rfl rfl (by omega) (Nat.le_of_ble_eq_true rfl) (Nat.le_of_ble_eq_true rfl) (Nat.le_of_ble_eq_true rfl) (Nat.le_of_ble_eq_true rfl) (by omega) rfl ?_
          refine sp_X3_mixClient (by omega) i _ hC hN hV (by omega) ?_
          refine k_lstore_n hK (L' := [some (.ref 0), some (.long _), none, some (.int _)]) ti_42_101 rfl ?_
          refine k_iinc hK (L' := [some (.ref 0), some (.long _), none, some (.int (nI (i + 1)))]) ti_42_102 rfl (by rw [kI_1, nI_add]) rfl ?_
          refine k_goto hK ti_42_105 jt_105_m21 ?_
          rw [← fol_S i (dgC s l) D3]
          exact ihd (i + 1) (by omega) (by omega) 
        · obtain rfl : i = (g_nC s) := by omega
          exact hxd
    rw [← fol_0 (dgC s l) D3]
    exact loopd ((g_nC s) - 0 + 1) 0 (by omega) (by omega) 
  refine k_lload_n hK ti_42_108 rfl ?_
  refine k_lreturn hK ti_42_109 rk_42 mc_42 ms_42 (Nat.le_of_ble_eq_true rfl) (Nat.le_of_ble_eq_true rfl) ?_
  have e : dig s l = fol (g_nC s) (dgC s l) D3 := by unfold dig; rw [hD1, hD2, hD3]
  rw [e] at h
  exact h
