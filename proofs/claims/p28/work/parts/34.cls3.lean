/-! The class: fit articles by place, what is told, mean, digest. (written by wip/whole/cls3.py) -/
set_option maxRecDepth 100000 in
set_option maxHeartbeats 4000000 in
theorem sp_X3_someoneIsShort_n {X : dp_X} {d n : Nat} {M : dp_M} {o : dp_O} {Q : dp_Q} (h65 : 65 ≤ n) {s : GSt} {l : LSt} (hC : CG M s) (hN : CLn M l) (h : Q (.inl (some (.int (bl (sht s l))))) M o) : dp_run X (d + 4 + 1) 57 [.ref 0, .ref 3] n M o Q := by
  apply k_run
  intro K hK
  rw [mL_57]
  show K 0 [some (.ref 0), some (.ref 3), none, none] [] n 0 0 M o
  have hA16 := hC.w.1
  have hC6 := hC.w.2.1
  refine k_iconst hK ti_57_0 kI_0 ?_
  refine k_istore_n hK (L' := [some (.ref 0), some (.ref 3), some (.int _), none]) ti_57_1 rfl ?_
  have loop : ∀ (f i : Nat) (u : Option Value), i ≤ (g_nC s) → (g_nC s) - i < f → (∀ k, k < i → sht1 s l k = false) → K 2 [some (.ref 0), some (.ref 3), some (.int (nI i)), u] [] n 0 0 M o := by
    intro f
    induction f with
    | zero => intro i u h1 h2; omega
    | succ f ih =>
      intro i u h1 h2 h3
      refine k_iload_n hK ti_57_2 rfl ?_
      refine k_aload_n hK ti_57_3 rfl ?_
      refine k_get hK ti_57_4 ow_57 fd_3_19 (by omega) rfl rfl ?_
      refine k_geti hK (nI (g_nC s)) ti_57_7 ow_57 fd_3_86 (by omega) rfl rfl hC.nC ?_
      refine kn_ge hK (by omega) (by omega) ti_57_10 jt_10_39 (fun c_10 => ?_) (fun c_10 => ?_)
      · refine k_aload_n hK ti_57_13 rfl ?_
        refine k_aload_n hK ti_57_14 rfl ?_
        refine k_iload_n hK ti_57_15 rfl ?_
        refine k_callV hK (as := [.ref 3, .int _]) (st' := []) ti_57_16 ow_57 iv_3_268 mc_57 ms_57 rfl rfl (by omega) (Nat.le_of_ble_eq_true rfl) (Nat.le_of_ble_eq_true rfl) (Nat.le_of_ble_eq_true rfl) (Nat.le_of_ble_eq_true rfl) (by omega) rfl ?_
        refine sp_X3_bestFit_n (by omega) i hC hN (by omega) ?_
        rcases hfa : fA s l i 0 with _ | a
        · have e : sht1 s l i = false := by simp only [sht1, hfa]
          refine k_istore_n hK (L' := [some (.ref 0), some (.ref 3), some (.int _), some (.int _)]) ti_57_19 rfl ?_
          refine k_iload_n hK ti_57_20 rfl ?_
          refine k_iconst hK ti_57_21 kI_m1 ?_
          refine k_icmp_eq hK ti_57_22 jt_22_21 (fun c_22 => ?_) (fun c_22 => ?_)
          · refine k_iinc hK (L' := [some (.ref 0), some (.ref 3), some (.int (nI (i + 1))), some (.int _)]) ti_57_43 rfl (by rw [kI_1, nI_add]) rfl ?_
            refine k_goto hK ti_57_46 jt_46_m44 ?_
            exact ih (i + 1) _ (by omega) (by omega) (fun k hk => by by_cases e2 : k = i; (subst e2; exact e); exact h3 k (by omega))
          · exact absurd rfl c_22
        · have ha := fA_lt hfa
          refine k_istore_n hK (L' := [some (.ref 0), some (.ref 3), some (.int _), some (.int _)]) ti_57_19 rfl ?_
          refine k_iload_n hK ti_57_20 rfl ?_
          refine k_iconst hK ti_57_21 kI_m1 ?_
          refine k_icmp_eq hK ti_57_22 jt_22_21 (fun c_22 => ?_) (fun c_22 => ?_)
          · exact absurd c_22 (nI_nm1 (by omega))
          · refine k_aload_n hK ti_57_25 rfl ?_
            refine k_aload_n hK ti_57_26 rfl ?_
            refine k_iload_n hK ti_57_27 rfl ?_
            refine k_iload_n hK ti_57_28 rfl ?_
            refine k_callV hK (as := [.ref 3, .int _, .int _]) (st' := []) ti_57_29 ow_57 iv_3_271 mc_57 ms_57 rfl rfl (by omega) (Nat.le_of_ble_eq_true rfl) (Nat.le_of_ble_eq_true rfl) (Nat.le_of_ble_eq_true rfl) (Nat.le_of_ble_eq_true rfl) (by omega) rfl ?_
            refine sp_X3_priceFor_n (by omega) i a hC hN (by omega) (by omega) ?_
            refine k_aload_n hK ti_57_32 rfl ?_
            refine k_get hK ti_57_33 ow_57 fd_3_91 (by omega) rfl rfl ?_
            refine k_iload_n hK ti_57_36 rfl ?_
            refine k_ialdv (v := (l_coin l i)) hK i ti_57_37 rfl (by omega) (by omega) rfl (by rw [dpl_15]; omega) (hN.2.2.1 i (by omega)).1 ?_
            refine k_icmp_le hK ti_57_38 jt_38_5 (fun c_38 => ?_) (fun c_38 => ?_)
            · have e : sht1 s l i = true := by simp only [sht1, hfa]; exact decide_eq_true c_38
              have e2 : sht s l = true := by unfold sht; rw [frst_hit c_10 e h3]; rfl
              rw [e2] at h
              refine k_iconst hK ti_57_41 kI_1 ?_
              refine k_zreturn hK ti_57_42 rk_57 mc_57 ms_57 (Nat.le_of_ble_eq_true rfl) (Nat.le_of_ble_eq_true rfl) (by decide) ?_
              exact h
            · have e : sht1 s l i = false := by simp only [sht1, hfa]; exact decide_eq_false c_38
              refine k_iinc hK (L' := [some (.ref 0), some (.ref 3), some (.int (nI (i + 1))), some (.int _)]) ti_57_43 rfl (by rw [kI_1, nI_add]) rfl ?_
              refine k_goto hK ti_57_46 jt_46_m44 ?_
              exact ih (i + 1) _ (by omega) (by omega) (fun k hk => by by_cases e2 : k = i; (subst e2; exact e); exact h3 k (by omega))
      · obtain rfl : i = (g_nC s) := by omega
        have e2 : sht s l = false := by unfold sht; rw [frst_none h3]; rfl
        rw [e2] at h
        refine k_iconst hK ti_57_49 kI_0 ?_
        refine k_zreturn hK ti_57_50 rk_57 mc_57 ms_57 (Nat.le_of_ble_eq_true rfl) (Nat.le_of_ble_eq_true rfl) (by decide) ?_
        exact h
  exact loop ((g_nC s) - 0 + 1) 0 _ (by omega) (by omega) (fun k hk => absurd hk (by omega))

set_option maxRecDepth 100000 in
set_option maxHeartbeats 4000000 in
theorem sp_X3_someoneIsShort_f {X : dp_X} {d n : Nat} {M : dp_M} {o : dp_O} {Q : dp_Q} (h65 : 65 ≤ n) {s : GSt} {l : LSt} (hC : CG M s) (hT : CLf M l) (h : Q (.inl (some (.int (bl (sht s l))))) M o) : dp_run X (d + 4 + 1) 57 [.ref 0, .ref 4] n M o Q := by
  apply k_run
  intro K hK
  rw [mL_57]
  show K 0 [some (.ref 0), some (.ref 4), none, none] [] n 0 0 M o
  have hA16 := hC.w.1
  have hC6 := hC.w.2.1
  refine k_iconst hK ti_57_0 kI_0 ?_
  refine k_istore_n hK (L' := [some (.ref 0), some (.ref 4), some (.int _), none]) ti_57_1 rfl ?_
  have loop : ∀ (f i : Nat) (u : Option Value), i ≤ (g_nC s) → (g_nC s) - i < f → (∀ k, k < i → sht1 s l k = false) → K 2 [some (.ref 0), some (.ref 4), some (.int (nI i)), u] [] n 0 0 M o := by
    intro f
    induction f with
    | zero => intro i u h1 h2; omega
    | succ f ih =>
      intro i u h1 h2 h3
      refine k_iload_n hK ti_57_2 rfl ?_
      refine k_aload_n hK ti_57_3 rfl ?_
      refine k_get hK ti_57_4 ow_57 fd_3_19 (by omega) rfl rfl ?_
      refine k_geti hK (nI (g_nC s)) ti_57_7 ow_57 fd_3_86 (by omega) rfl rfl hC.nC ?_
      refine kn_ge hK (by omega) (by omega) ti_57_10 jt_10_39 (fun c_10 => ?_) (fun c_10 => ?_)
      · refine k_aload_n hK ti_57_13 rfl ?_
        refine k_aload_n hK ti_57_14 rfl ?_
        refine k_iload_n hK ti_57_15 rfl ?_
        refine k_callV hK (as := [.ref 4, .int _]) (st' := []) ti_57_16 ow_57 iv_3_268 mc_57 ms_57 rfl rfl (by omega) (Nat.le_of_ble_eq_true rfl) (Nat.le_of_ble_eq_true rfl) (Nat.le_of_ble_eq_true rfl) (Nat.le_of_ble_eq_true rfl) (by omega) rfl ?_
        refine sp_X3_bestFit_f (by omega) i hC hT (by omega) ?_
        rcases hfa : fA s l i 0 with _ | a
        · have e : sht1 s l i = false := by simp only [sht1, hfa]
          refine k_istore_n hK (L' := [some (.ref 0), some (.ref 4), some (.int _), some (.int _)]) ti_57_19 rfl ?_
          refine k_iload_n hK ti_57_20 rfl ?_
          refine k_iconst hK ti_57_21 kI_m1 ?_
          refine k_icmp_eq hK ti_57_22 jt_22_21 (fun c_22 => ?_) (fun c_22 => ?_)
          · refine k_iinc hK (L' := [some (.ref 0), some (.ref 4), some (.int (nI (i + 1))), some (.int _)]) ti_57_43 rfl (by rw [kI_1, nI_add]) rfl ?_
            refine k_goto hK ti_57_46 jt_46_m44 ?_
            exact ih (i + 1) _ (by omega) (by omega) (fun k hk => by by_cases e2 : k = i; (subst e2; exact e); exact h3 k (by omega))
          · exact absurd rfl c_22
        · have ha := fA_lt hfa
          refine k_istore_n hK (L' := [some (.ref 0), some (.ref 4), some (.int _), some (.int _)]) ti_57_19 rfl ?_
          refine k_iload_n hK ti_57_20 rfl ?_
          refine k_iconst hK ti_57_21 kI_m1 ?_
          refine k_icmp_eq hK ti_57_22 jt_22_21 (fun c_22 => ?_) (fun c_22 => ?_)
          · exact absurd c_22 (nI_nm1 (by omega))
          · refine k_aload_n hK ti_57_25 rfl ?_
            refine k_aload_n hK ti_57_26 rfl ?_
            refine k_iload_n hK ti_57_27 rfl ?_
            refine k_iload_n hK ti_57_28 rfl ?_
            refine k_callV hK (as := [.ref 4, .int _, .int _]) (st' := []) ti_57_29 ow_57 iv_3_271 mc_57 ms_57 rfl rfl (by omega) (Nat.le_of_ble_eq_true rfl) (Nat.le_of_ble_eq_true rfl) (Nat.le_of_ble_eq_true rfl) (Nat.le_of_ble_eq_true rfl) (by omega) rfl ?_
            refine sp_X3_priceFor_f (by omega) i a hC hT (by omega) (by omega) ?_
            refine k_aload_n hK ti_57_32 rfl ?_
            refine k_get hK ti_57_33 ow_57 fd_3_91 (by omega) rfl rfl ?_
            refine k_iload_n hK ti_57_36 rfl ?_
            refine k_ialdv (v := (l_coin l i)) hK i ti_57_37 rfl (by omega) (by omega) rfl (by rw [dpl_19]; omega) (hT.2.2.1 i (by omega)).1 ?_
            refine k_icmp_le hK ti_57_38 jt_38_5 (fun c_38 => ?_) (fun c_38 => ?_)
            · have e : sht1 s l i = true := by simp only [sht1, hfa]; exact decide_eq_true c_38
              have e2 : sht s l = true := by unfold sht; rw [frst_hit c_10 e h3]; rfl
              rw [e2] at h
              refine k_iconst hK ti_57_41 kI_1 ?_
              refine k_zreturn hK ti_57_42 rk_57 mc_57 ms_57 (Nat.le_of_ble_eq_true rfl) (Nat.le_of_ble_eq_true rfl) (by decide) ?_
              exact h
            · have e : sht1 s l i = false := by simp only [sht1, hfa]; exact decide_eq_false c_38
              refine k_iinc hK (L' := [some (.ref 0), some (.ref 4), some (.int (nI (i + 1))), some (.int _)]) ti_57_43 rfl (by rw [kI_1, nI_add]) rfl ?_
              refine k_goto hK ti_57_46 jt_46_m44 ?_
              exact ih (i + 1) _ (by omega) (by omega) (fun k hk => by by_cases e2 : k = i; (subst e2; exact e); exact h3 k (by omega))
      · obtain rfl : i = (g_nC s) := by omega
        have e2 : sht s l = false := by unfold sht; rw [frst_none h3]; rfl
        rw [e2] at h
        refine k_iconst hK ti_57_49 kI_0 ?_
        refine k_zreturn hK ti_57_50 rk_57 mc_57 ms_57 (Nat.le_of_ble_eq_true rfl) (Nat.le_of_ble_eq_true rfl) (by decide) ?_
        exact h
  exact loop ((g_nC s) - 0 + 1) 0 _ (by omega) (by omega) (fun k hk => absurd hk (by omega))

set_option maxRecDepth 100000 in
set_option maxHeartbeats 4000000 in
theorem sp_X3_fitArticlesAhead {X : dp_X} {d n : Nat} {M : dp_M} {o : dp_O} {Q : dp_Q} (h65 : 65 ≤ n) {s : GSt} {l : LSt} (c a : Nat) (hC : CG M s) (hN : CLn M l) (hc : c < g_nC s) (ha : a < 16) (h : Q (.inl (some (.int (nI (rnk s l c a))))) M o) : dp_run X (d + 3 + 1) 53 [.ref 0, .int (nI c), .int (nI a), .int (sc s l c a)] n M o Q := by
  apply k_run
  intro K hK
  rw [mL_53]
  show K 0 [some (.ref 0), some (.int (nI c)), some (.int (nI a)), some (.int (sc s l c a)), none, none, none, none] [] n 0 0 M o
  have hA16 := hC.w.1
  have hC6 := hC.w.2.1
  refine k_iconst hK ti_53_0 kI_0 ?_
  refine k_istore hK (L' := [some (.ref 0), some (.int _), some (.int _), some (.int _), some (.int _), none, none, none]) ti_53_1 rfl ?_
  refine k_iconst hK ti_53_3 kI_0 ?_
  refine k_istore hK (L' := [some (.ref 0), some (.int _), some (.int _), some (.int _), some (.int _), some (.int _), none, none]) ti_53_4 rfl ?_
  have loop : ∀ (f i : Nat) (u : Option Value) (v : Option Value), i ≤ (g_nA s) → (g_nA s) - i < f → K 6 [some (.ref 0), some (.int (nI c)), some (.int (nI a)), some (.int (sc s l c a)), some (.int (nI (cnt i (fun b => fit s l c b && btr (sc s l c) b a)))), some (.int (nI i)), u, v] [] n 0 0 M o := by
    intro f
    induction f with
    | zero => intro i u v h1 h2; omega
    | succ f ih =>
      intro i u v h1 h2
      refine k_iload hK ti_53_6 rfl ?_
      refine k_aload_n hK ti_53_8 rfl ?_
      refine k_get hK ti_53_9 ow_53 fd_3_10 (by omega) rfl rfl ?_
      refine k_geti hK (nI (g_nA s)) ti_53_12 ow_53 fd_3_50 (by omega) rfl rfl hC.nA ?_
      refine kn_ge hK (by omega) (by omega) ti_53_15 jt_15_71 (fun c_15 => ?_) (fun c_15 => ?_)
      · refine k_aload_n hK ti_53_18 rfl ?_
        refine k_aload_n hK ti_53_19 rfl ?_
        refine k_get hK ti_53_20 ow_53 fd_3_26 (by omega) rfl rfl ?_
        refine k_iload_n hK ti_53_23 rfl ?_
        refine k_iload hK ti_53_24 rfl ?_
        refine k_callV hK (as := [.ref 3, .int _, .int _]) (st' := []) ti_53_26 ow_53 iv_3_156 mc_53 ms_53 rfl rfl (by omega) (Nat.le_of_ble_eq_true rfl) (Nat.le_of_ble_eq_true rfl) (Nat.le_of_ble_eq_true rfl) (Nat.le_of_ble_eq_true rfl) (by omega) rfl ?_
        refine sp_X3_scoreFor_n (by omega) c i hC hN (by omega) (by omega) ?_
        refine k_istore hK (L' := [some (.ref 0), some (.int _), some (.int _), some (.int _), some (.int _), some (.int _), some (.int _), v]) ti_53_29 rfl ?_
        refine k_iload hK ti_53_31 rfl ?_
        refine k_iload_n hK ti_53_33 rfl ?_
        refine k_icmp_gt hK ti_53_34 jt_34_15 (fun c_34 => ?_) (fun c_34 => ?_)
        · refine k_iconst hK ti_53_49 kI_1 ?_
          refine k_goto hK ti_53_50 jt_50_4 ?_
          refine k_istore hK (L' := [some (.ref 0), some (.int _), some (.int _), some (.int _), some (.int _), some (.int _), some (.int _), some (.int _)]) ti_53_54 rfl ?_
          refine k_iload hK ti_53_56 rfl ?_
          refine kz_eq hK (by omega) ti_53_58 jt_58_22 (fun c_58 => ?_) (fun c_58 => ?_)
          · exact absurd c_58 (by decide)
          · refine k_aload_n hK ti_53_61 rfl ?_
            refine k_aload_n hK ti_53_62 rfl ?_
            refine k_get hK ti_53_63 ow_53 fd_3_26 (by omega) rfl rfl ?_
            refine k_iload_n hK ti_53_66 rfl ?_
            refine k_iload hK ti_53_67 rfl ?_
            refine k_iload hK ti_53_69 rfl ?_
            refine k_callV hK (as := [.ref 3, .int _, .int _, .int _]) (st' := []) ti_53_71 ow_53 iv_3_251 mc_53 ms_53 rfl rfl (by omega) (Nat.le_of_ble_eq_true rfl) (Nat.le_of_ble_eq_true rfl) (Nat.le_of_ble_eq_true rfl) (Nat.le_of_ble_eq_true rfl) (by omega) rfl ?_
            refine sp_X3_isFit_n (by omega) c i ((sc s l c i)) hC hN (by omega) (by omega) (k_aftv (bl (fit s l c i)) (congrArg bl (Bool.and_comm _ _)) ?_)
            refine kb_eq hK ti_53_74 jt_74_6 (fun c_74 => ?_) (fun c_74 => ?_)
            · · rw [← (cnt_f (by simp [btr, *]) : cnt (i + 1) (fun b => fit s l c b && btr (sc s l c) b a) = cnt i (fun b => fit s l c b && btr (sc s l c) b a))]
                refine k_iinc hK (L' := [some (.ref 0), some (.int _), some (.int _), some (.int _), some (.int _), some (.int (nI (i + 1))), some (.int _), some (.int _)]) ti_53_80 rfl (by rw [kI_1, nI_add]) rfl ?_
                refine k_goto hK ti_53_83 jt_83_m77 ?_
                exact ih (i + 1) _ _ (by omega) (by omega) 
            · refine k_iinc hK (L' := [some (.ref 0), some (.int _), some (.int _), some (.int _), some (.int (nI (cnt (i + 1) (fun b => fit s l c b && btr (sc s l c) b a)))), some (.int _), some (.int _), some (.int _)]) ti_53_77 rfl (by rw [cnt_t (by simp [btr, *]), kI_1, nI_add]) rfl ?_
              refine k_iinc hK (L' := [some (.ref 0), some (.int _), some (.int _), some (.int _), some (.int _), some (.int (nI (i + 1))), some (.int _), some (.int _)]) ti_53_80 rfl (by rw [kI_1, nI_add]) rfl ?_
              refine k_goto hK ti_53_83 jt_83_m77 ?_
              exact ih (i + 1) _ _ (by omega) (by omega) 
        · refine k_iload hK ti_53_37 rfl ?_
          refine k_iload_n hK ti_53_39 rfl ?_
          refine k_icmp_ne hK ti_53_40 jt_40_13 (fun c_40 => ?_) (fun c_40 => ?_)
          · refine k_iload hK ti_53_43 rfl ?_
            refine k_iload_n hK ti_53_45 rfl ?_
            refine kn_ge hK (by omega) (by omega) ti_53_46 jt_46_7 (fun c_46 => ?_) (fun c_46 => ?_)
            · refine k_iconst hK ti_53_49 kI_1 ?_
              refine k_goto hK ti_53_50 jt_50_4 ?_
              refine k_istore hK (L' := [some (.ref 0), some (.int _), some (.int _), some (.int _), some (.int _), some (.int _), some (.int _), some (.int _)]) ti_53_54 rfl ?_
              refine k_iload hK ti_53_56 rfl ?_
              refine kz_eq hK (by omega) ti_53_58 jt_58_22 (fun c_58 => ?_) (fun c_58 => ?_)
              · exact absurd c_58 (by decide)
              · refine k_aload_n hK ti_53_61 rfl ?_
                refine k_aload_n hK ti_53_62 rfl ?_
                refine k_get hK ti_53_63 ow_53 fd_3_26 (by omega) rfl rfl ?_
                refine k_iload_n hK ti_53_66 rfl ?_
                refine k_iload hK ti_53_67 rfl ?_
                refine k_iload hK ti_53_69 rfl ?_
                refine k_callV hK (as := [.ref 3, .int _, .int _, .int _]) (st' := []) ti_53_71 ow_53 iv_3_251 mc_53 ms_53 rfl rfl (by omega) (Nat.le_of_ble_eq_true rfl) (Nat.le_of_ble_eq_true rfl) (Nat.le_of_ble_eq_true rfl) (Nat.le_of_ble_eq_true rfl) (by omega) rfl ?_
                refine sp_X3_isFit_n (by omega) c i ((sc s l c i)) hC hN (by omega) (by omega) (k_aftv (bl (fit s l c i)) (congrArg bl (Bool.and_comm _ _)) ?_)
                refine kb_eq hK ti_53_74 jt_74_6 (fun c_74 => ?_) (fun c_74 => ?_)
                · · rw [← (cnt_f (by simp [btr, *]) : cnt (i + 1) (fun b => fit s l c b && btr (sc s l c) b a) = cnt i (fun b => fit s l c b && btr (sc s l c) b a))]
                    refine k_iinc hK (L' := [some (.ref 0), some (.int _), some (.int _), some (.int _), some (.int _), some (.int (nI (i + 1))), some (.int _), some (.int _)]) ti_53_80 rfl (by rw [kI_1, nI_add]) rfl ?_
                    refine k_goto hK ti_53_83 jt_83_m77 ?_
                    exact ih (i + 1) _ _ (by omega) (by omega) 
                · refine k_iinc hK (L' := [some (.ref 0), some (.int _), some (.int _), some (.int _), some (.int (nI (cnt (i + 1) (fun b => fit s l c b && btr (sc s l c) b a)))), some (.int _), some (.int _), some (.int _)]) ti_53_77 rfl (by rw [cnt_t (by simp [btr, *]), kI_1, nI_add]) rfl ?_
                  refine k_iinc hK (L' := [some (.ref 0), some (.int _), some (.int _), some (.int _), some (.int _), some (.int (nI (i + 1))), some (.int _), some (.int _)]) ti_53_80 rfl (by rw [kI_1, nI_add]) rfl ?_
                  refine k_goto hK ti_53_83 jt_83_m77 ?_
                  exact ih (i + 1) _ _ (by omega) (by omega) 
            · refine k_iconst hK ti_53_53 kI_0 ?_
              refine k_istore hK (L' := [some (.ref 0), some (.int _), some (.int _), some (.int _), some (.int _), some (.int _), some (.int _), some (.int _)]) ti_53_54 rfl ?_
              refine k_iload hK ti_53_56 rfl ?_
              refine kz_eq hK (by omega) ti_53_58 jt_58_22 (fun c_58 => ?_) (fun c_58 => ?_)
              · · rw [← (cnt_f (by simp [btr, *]) : cnt (i + 1) (fun b => fit s l c b && btr (sc s l c) b a) = cnt i (fun b => fit s l c b && btr (sc s l c) b a))]
                  refine k_iinc hK (L' := [some (.ref 0), some (.int _), some (.int _), some (.int _), some (.int _), some (.int (nI (i + 1))), some (.int _), some (.int _)]) ti_53_80 rfl (by rw [kI_1, nI_add]) rfl ?_
                  refine k_goto hK ti_53_83 jt_83_m77 ?_
                  exact ih (i + 1) _ _ (by omega) (by omega) 
              · exact absurd rfl c_58
          · refine k_iconst hK ti_53_53 kI_0 ?_
            refine k_istore hK (L' := [some (.ref 0), some (.int _), some (.int _), some (.int _), some (.int _), some (.int _), some (.int _), some (.int _)]) ti_53_54 rfl ?_
            refine k_iload hK ti_53_56 rfl ?_
            refine kz_eq hK (by omega) ti_53_58 jt_58_22 (fun c_58 => ?_) (fun c_58 => ?_)
            · · rw [← (cnt_f (by simp [btr, *]) : cnt (i + 1) (fun b => fit s l c b && btr (sc s l c) b a) = cnt i (fun b => fit s l c b && btr (sc s l c) b a))]
                refine k_iinc hK (L' := [some (.ref 0), some (.int _), some (.int _), some (.int _), some (.int _), some (.int (nI (i + 1))), some (.int _), some (.int _)]) ti_53_80 rfl (by rw [kI_1, nI_add]) rfl ?_
                refine k_goto hK ti_53_83 jt_83_m77 ?_
                exact ih (i + 1) _ _ (by omega) (by omega) 
            · exact absurd rfl c_58
      · obtain rfl : i = (g_nA s) := by omega
        refine k_iload hK ti_53_86 rfl ?_
        refine k_ireturn hK ti_53_88 rk_53 mc_53 ms_53 (Nat.le_of_ble_eq_true rfl) (Nat.le_of_ble_eq_true rfl) ?_
        exact h
  exact loop ((g_nA s) - 0 + 1) 0 _ _ (by omega) (by omega) 

set_option maxRecDepth 100000 in
set_option maxHeartbeats 4000000 in
theorem sp_X3_fitArticleAt {X : dp_X} {d n : Nat} {M : dp_M} {o : dp_O} {Q : dp_Q} (h65 : 65 ≤ n) {s : GSt} {l : LSt} (c p : Nat) (hC : CG M s) (hN : CLn M l) (hc : c < g_nC s) (hp : p < 2 ^ 31) (h : Q (.inl (some (.int (oI (fA s l c p))))) M o) : dp_run X (d + 4 + 1) 52 [.ref 0, .int (nI c), .int (nI p)] n M o Q := by
  apply k_run
  intro K hK
  rw [mL_52]
  show K 0 [some (.ref 0), some (.int (nI c)), some (.int (nI p)), none, none] [] n 0 0 M o
  have hA16 := hC.w.1
  have hC6 := hC.w.2.1
  refine k_iconst hK ti_52_0 kI_0 ?_
  refine k_istore_n hK (L' := [some (.ref 0), some (.int _), some (.int _), some (.int _), none]) ti_52_1 rfl ?_
  have loop : ∀ (f i : Nat) (u : Option Value), i ≤ (g_nA s) → (g_nA s) - i < f → (∀ k, k < i → (fit s l c k && decide (rnk s l c k = p)) = false) → K 2 [some (.ref 0), some (.int (nI c)), some (.int (nI p)), some (.int (nI i)), u] [] n 0 0 M o := by
    intro f
    induction f with
    | zero => intro i u h1 h2; omega
    | succ f ih =>
      intro i u h1 h2 h3
      refine k_iload_n hK ti_52_2 rfl ?_
      refine k_aload_n hK ti_52_3 rfl ?_
      refine k_get hK ti_52_4 ow_52 fd_3_10 (by omega) rfl rfl ?_
      refine k_geti hK (nI (g_nA s)) ti_52_7 ow_52 fd_3_50 (by omega) rfl rfl hC.nA ?_
      refine kn_ge hK (by omega) (by omega) ti_52_10 jt_10_50 (fun c_10 => ?_) (fun c_10 => ?_)
      · have hrk : rnk s l c i ≤ g_nA s := cnt_le _ _
        refine k_aload_n hK ti_52_13 rfl ?_
        refine k_aload_n hK ti_52_14 rfl ?_
        refine k_get hK ti_52_15 ow_52 fd_3_26 (by omega) rfl rfl ?_
        refine k_iload_n hK ti_52_18 rfl ?_
        refine k_iload_n hK ti_52_19 rfl ?_
        refine k_callV hK (as := [.ref 3, .int _, .int _]) (st' := []) ti_52_20 ow_52 iv_3_156 mc_52 ms_52 rfl rfl (by omega) (Nat.le_of_ble_eq_true rfl) (Nat.le_of_ble_eq_true rfl) (Nat.le_of_ble_eq_true rfl) (Nat.le_of_ble_eq_true rfl) (by omega) rfl ?_
        refine sp_X3_scoreFor_n (by omega) c i hC hN (by omega) (by omega) ?_
        refine k_istore hK (L' := [some (.ref 0), some (.int _), some (.int _), some (.int _), some (.int _)]) ti_52_23 rfl ?_
        refine k_aload_n hK ti_52_25 rfl ?_
        refine k_aload_n hK ti_52_26 rfl ?_
        refine k_get hK ti_52_27 ow_52 fd_3_26 (by omega) rfl rfl ?_
        refine k_iload_n hK ti_52_30 rfl ?_
        refine k_iload_n hK ti_52_31 rfl ?_
        refine k_iload hK ti_52_32 rfl ?_
        refine k_callV hK (as := [.ref 3, .int _, .int _, .int _]) (st' := []) ti_52_34 ow_52 iv_3_251 mc_52 ms_52 rfl rfl (by omega) (Nat.le_of_ble_eq_true rfl) (Nat.le_of_ble_eq_true rfl) (Nat.le_of_ble_eq_true rfl) (Nat.le_of_ble_eq_true rfl) (by omega) rfl ?_
        refine sp_X3_isFit_n (by omega) c i ((sc s l c i)) hC hN (by omega) (by omega) (k_aftv (bl (fit s l c i)) (congrArg bl (Bool.and_comm _ _)) ?_)
        refine kb_eq hK ti_52_37 jt_37_17 (fun c_37 => ?_) (fun c_37 => ?_)
        · refine k_iinc hK (L' := [some (.ref 0), some (.int _), some (.int _), some (.int (nI (i + 1))), some (.int _)]) ti_52_54 rfl (by rw [kI_1, nI_add]) rfl ?_
          refine k_goto hK ti_52_57 jt_57_m55 ?_
          exact ih (i + 1) _ (by omega) (by omega) (fun k hk => by by_cases e : k = i; (subst e; simp [*]); exact h3 k (by omega))
        · refine k_aload_n hK ti_52_40 rfl ?_
          refine k_iload_n hK ti_52_41 rfl ?_
          refine k_iload_n hK ti_52_42 rfl ?_
          refine k_iload hK ti_52_43 rfl ?_
          refine k_callV hK (as := [.int _, .int _, .int _]) (st' := []) ti_52_45 ow_52 iv_3_255 mc_52 ms_52 rfl rfl (by omega) (Nat.le_of_ble_eq_true rfl) (Nat.le_of_ble_eq_true rfl) (Nat.le_of_ble_eq_true rfl) (Nat.le_of_ble_eq_true rfl) (by omega) rfl ?_
          refine sp_X3_fitArticlesAhead (by omega) c i hC hN (by omega) (by omega) ?_
          refine k_iload_n hK ti_52_48 rfl ?_
          refine kn_ne hK (by omega) (by omega) ti_52_49 jt_49_5 (fun c_49 => ?_) (fun c_49 => ?_)
          · have e3 : fA s l c p = some i := frst_hit (by omega) (by simp [*]) h3
            rw [e3] at h
            refine k_iload_n hK ti_52_52 rfl ?_
            refine k_ireturn hK ti_52_53 rk_52 mc_52 ms_52 (Nat.le_of_ble_eq_true rfl) (Nat.le_of_ble_eq_true rfl) ?_
            exact h
          · refine k_iinc hK (L' := [some (.ref 0), some (.int _), some (.int _), some (.int (nI (i + 1))), some (.int _)]) ti_52_54 rfl (by rw [kI_1, nI_add]) rfl ?_
            refine k_goto hK ti_52_57 jt_57_m55 ?_
            exact ih (i + 1) _ (by omega) (by omega) (fun k hk => by by_cases e : k = i; (subst e; simp [*]); exact h3 k (by omega))
      · obtain rfl : i = (g_nA s) := by omega
        have e3 : fA s l c p = none := frst_none h3
        rw [e3] at h
        refine k_iconst hK ti_52_60 kI_m1 ?_
        refine k_ireturn hK ti_52_61 rk_52 mc_52 ms_52 (Nat.le_of_ble_eq_true rfl) (Nat.le_of_ble_eq_true rfl) ?_
        exact h
  exact loop ((g_nA s) - 0 + 1) 0 _ (by omega) (by omega) (fun k hk => absurd hk (by omega))

set_option maxRecDepth 100000 in
set_option maxHeartbeats 4000000 in
theorem sp_X3_tellOfArticle {X : dp_X} {d n : Nat} {M : dp_M} {o : dp_O} {Q : dp_Q} (h65 : 65 ≤ n) {s : GSt} {l : LSt} (a w : Nat) (hC : CG M s) (hN : CLn M l) (hV : WFL s l) (ha : a < 16) (hw : w < 4) (h : Q (.inl (some (.int (aT s l a w)))) M o) : dp_run X (d + 2 + 1) 45 [.ref 0, .int (nI a), .int (nI w)] n M o Q := by
  apply k_run
  intro K hK
  rw [mL_45]
  show K 0 [some (.ref 0), some (.int (nI a)), some (.int (nI w))] [] n 0 0 M o
  have hA16 := hC.w.1
  have hC6 := hC.w.2.1
  refine k_iload_n hK ti_45_0 rfl ?_
  have hw7 : w = 0 ∨ w = 1 ∨ w = 2 ∨ w = 3 := by omega
  rcases hw7 with rfl | rfl | rfl | rfl
  · refine k_swl hK (off := 27) ti_45_1 (by decide) rfl (by decide) jt_1_27 ?_
    refine k_aload_n hK ti_45_28 rfl ?_
    refine k_get hK ti_45_29 ow_45 fd_3_10 (by omega) rfl rfl ?_
    refine k_get hK ti_45_32 ow_45 fd_3_64 (by omega) rfl rfl ?_
    refine k_iload_n hK ti_45_35 rfl ?_
    refine k_ialdv (v := (nI (g_len s a))) hK a ti_45_36 rfl (by omega) (by omega) rfl (by rw [dpl_8]; omega) (hC.len a (by omega)) ?_
    refine k_ireturn hK ti_45_37 rk_45 mc_45 ms_45 (Nat.le_of_ble_eq_true rfl) (Nat.le_of_ble_eq_true rfl) ?_
    exact h
  · refine k_swl hK (off := 37) ti_45_1 (by decide) rfl (by decide) jt_1_37 ?_
    refine k_aload_n hK ti_45_38 rfl ?_
    refine k_get hK ti_45_39 ow_45 fd_3_10 (by omega) rfl rfl ?_
    refine k_iload_n hK ti_45_42 rfl ?_
    refine k_callV hK (as := [.int _]) (st' := []) ti_45_43 ow_45 iv_3_214 mc_45 ms_45 rfl rfl (by omega) (Nat.le_of_ble_eq_true rfl) (Nat.le_of_ble_eq_true rfl) (Nat.le_of_ble_eq_true rfl) (Nat.le_of_ble_eq_true rfl) (by omega) rfl ?_
    refine sp_X2_stemsOf (by omega) a hC (by omega) ?_
    refine k_ireturn hK ti_45_46 rk_45 mc_45 ms_45 (Nat.le_of_ble_eq_true rfl) (Nat.le_of_ble_eq_true rfl) ?_
    exact h
  · refine k_swl hK (off := 46) ti_45_1 (by decide) rfl (by decide) jt_1_46 ?_
    refine k_aload_n hK ti_45_47 rfl ?_
    refine k_get hK ti_45_48 ow_45 fd_3_26 (by omega) rfl rfl ?_
    refine k_get hK ti_45_51 ow_45 fd_3_217 (by omega) rfl rfl ?_
    refine k_iload_n hK ti_45_54 rfl ?_
    refine k_ialdv (v := (l_age l a)) hK a ti_45_55 rfl (by omega) (by omega) rfl (by rw [dpl_14]; omega) (hN.2.1 a (by omega)) ?_
    refine k_ireturn hK ti_45_56 rk_45 mc_45 ms_45 (Nat.le_of_ble_eq_true rfl) (Nat.le_of_ble_eq_true rfl) ?_
    exact h
  · refine k_swd hK ti_45_1 (by decide) (by decide) (by decide) jt_1_56 ?_
    refine k_aload_n hK ti_45_57 rfl ?_
    refine k_get hK ti_45_58 ow_45 fd_3_26 (by omega) rfl rfl ?_
    refine k_iload_n hK ti_45_61 rfl ?_
    refine k_callV hK (as := [.int _]) (st' := []) ti_45_62 ow_45 iv_3_220 mc_45 ms_45 rfl rfl (by omega) (Nat.le_of_ble_eq_true rfl) (Nat.le_of_ble_eq_true rfl) (Nat.le_of_ble_eq_true rfl) (Nat.le_of_ble_eq_true rfl) (by omega) rfl ?_
    refine sp_X0_receivers (by omega) a hC hN hV (by omega) ?_
    refine k_ireturn hK ti_45_65 rk_45 mc_45 ms_45 (Nat.le_of_ble_eq_true rfl) (Nat.le_of_ble_eq_true rfl) ?_
    exact h

set_option maxRecDepth 100000 in
set_option maxHeartbeats 4000000 in
theorem sp_X3_tellOfClient {X : dp_X} {d n : Nat} {M : dp_M} {o : dp_O} {Q : dp_Q} (h65 : 65 ≤ n) {s : GSt} {l : LSt} (c w : Nat) (hC : CG M s) (hN : CLn M l) (hV : WFL s l) (hc : c < g_nC s) (hw : w < 6) (h : Q (.inl (some (.int (cT s l c w)))) M o) : dp_run X (d + 4 + 1) 46 [.ref 0, .int (nI c), .int (nI w)] n M o Q := by
  apply k_run
  intro K hK
  rw [mL_46]
  show K 0 [some (.ref 0), some (.int (nI c)), some (.int (nI w))] [] n 0 0 M o
  have hA16 := hC.w.1
  have hC6 := hC.w.2.1
  have hs16 := hN.1 c (by omega)
  refine k_iload_n hK ti_46_0 rfl ?_
  have hw7 : w = 0 ∨ w = 1 ∨ w = 2 ∨ w = 3 ∨ w = 4 ∨ w = 5 := by omega
  rcases hw7 with rfl | rfl | rfl | rfl | rfl | rfl
  · refine k_swl hK (off := 35) ti_46_1 (by decide) rfl (by decide) jt_1_35 ?_
    refine k_aload_n hK ti_46_36 rfl ?_
    refine k_get hK ti_46_37 ow_46 fd_3_26 (by omega) rfl rfl ?_
    refine k_get hK ti_46_40 ow_46 fd_3_91 (by omega) rfl rfl ?_
    refine k_iload_n hK ti_46_43 rfl ?_
    refine k_ialdv (v := (l_coin l c)) hK c ti_46_44 rfl (by omega) (by omega) rfl (by rw [dpl_15]; omega) (hN.2.2.1 c (by omega)).1 ?_
    refine k_ireturn hK ti_46_45 rk_46 mc_46 ms_46 (Nat.le_of_ble_eq_true rfl) (Nat.le_of_ble_eq_true rfl) ?_
    exact h
  · refine k_swl hK (off := 45) ti_46_1 (by decide) rfl (by decide) jt_1_45 ?_
    refine k_aload_n hK ti_46_46 rfl ?_
    refine k_get hK ti_46_47 ow_46 fd_3_19 (by omega) rfl rfl ?_
    refine k_get hK ti_46_50 ow_46 fd_3_97 (by omega) rfl rfl ?_
    refine k_iload_n hK ti_46_53 rfl ?_
    refine k_ialdv (v := (nI (g_many s c))) hK c ti_46_54 rfl (by omega) (by omega) rfl (by rw [dpl_12]; omega) (hC.many c (by omega)) ?_
    refine k_ireturn hK ti_46_55 rk_46 mc_46 ms_46 (Nat.le_of_ble_eq_true rfl) (Nat.le_of_ble_eq_true rfl) ?_
    exact h
  · refine k_swl hK (off := 55) ti_46_1 (by decide) rfl (by decide) jt_1_55 ?_
    refine k_aload_n hK ti_46_56 rfl ?_
    refine k_get hK ti_46_57 ow_46 fd_3_19 (by omega) rfl rfl ?_
    refine k_get hK ti_46_60 ow_46 fd_3_115 (by omega) rfl rfl ?_
    refine k_iload_n hK ti_46_63 rfl ?_
    refine k_ialdv (v := (g_bar s c)) hK c ti_46_64 rfl (by omega) (by omega) rfl (by rw [dpl_13]; omega) (hC.bar c (by omega)) ?_
    refine k_ireturn hK ti_46_65 rk_46 mc_46 ms_46 (Nat.le_of_ble_eq_true rfl) (Nat.le_of_ble_eq_true rfl) ?_
    exact h
  · refine k_swl hK (off := 65) ti_46_1 (by decide) rfl (by decide) jt_1_65 ?_
    refine k_aload_n hK ti_46_66 rfl ?_
    refine k_get hK ti_46_67 ow_46 fd_3_26 (by omega) rfl rfl ?_
    refine k_get hK ti_46_70 ow_46 fd_3_223 (by omega) rfl rfl ?_
    refine k_iload_n hK ti_46_73 rfl ?_
    refine k_ialdv (v := (nI (l_sent l c))) hK c ti_46_74 rfl (by omega) (by omega) rfl (by rw [dpl_17]; omega) (hN.2.2.1 c (by omega)).2.2 ?_
    refine k_callS hK (as := [.int _]) (st' := []) ti_46_75 ow_46 iv_3_226 mc_46 ms_46 rfl rfl (by omega) (Nat.le_of_ble_eq_true rfl) (Nat.le_of_ble_eq_true rfl) (Nat.le_of_ble_eq_true rfl) (Nat.le_of_ble_eq_true rfl) ?_
    refine sp_J6_bitCount (by omega) (l_sent l c) (by omega) (k_aftv (nI (snt s l c)) (congrArg nI (hV.pc hC.w (by omega))) ?_)
    refine k_ireturn hK ti_46_78 rk_46 mc_46 ms_46 (Nat.le_of_ble_eq_true rfl) (Nat.le_of_ble_eq_true rfl) ?_
    exact h
  · refine k_swl hK (off := 78) ti_46_1 (by decide) rfl (by decide) jt_1_78 ?_
    refine k_aload_n hK ti_46_79 rfl ?_
    refine k_get hK ti_46_80 ow_46 fd_3_26 (by omega) rfl rfl ?_
    refine k_get hK ti_46_83 ow_46 fd_3_231 (by omega) rfl rfl ?_
    refine k_iload_n hK ti_46_86 rfl ?_
    refine k_ialdv (v := (l_paid l c)) hK c ti_46_87 rfl (by omega) (by omega) rfl (by rw [dpl_16]; omega) (hN.2.2.1 c (by omega)).2.1 ?_
    refine k_ireturn hK ti_46_88 rk_46 mc_46 ms_46 (Nat.le_of_ble_eq_true rfl) (Nat.le_of_ble_eq_true rfl) ?_
    exact h
  · refine k_swd hK ti_46_1 (by decide) (by decide) (by decide) jt_1_88 ?_
    refine k_aload_n hK ti_46_89 rfl ?_
    refine k_iload_n hK ti_46_90 rfl ?_
    refine k_callV hK (as := [.int _]) (st' := []) ti_46_91 ow_46 iv_3_160 mc_46 ms_46 rfl rfl (by omega) (Nat.le_of_ble_eq_true rfl) (Nat.le_of_ble_eq_true rfl) (Nat.le_of_ble_eq_true rfl) (Nat.le_of_ble_eq_true rfl) (by omega) rfl ?_
    refine sp_X3_fitArticles (by omega) c hC hN (by omega) ?_
    refine k_ireturn hK ti_46_94 rk_46 mc_46 ms_46 (Nat.le_of_ble_eq_true rfl) (Nat.le_of_ble_eq_true rfl) ?_
    exact h

set_option maxRecDepth 100000 in
set_option maxHeartbeats 4000000 in
theorem sp_X3_tellOfAll {X : dp_X} {d n : Nat} {M : dp_M} {o : dp_O} {Q : dp_Q} (h65 : 65 ≤ n) {s : GSt} {l : LSt} (w : Nat) (hC : CG M s) (hN : CLn M l) (hV : WFL s l) (hw : w < 7) (h : Q (.inl (some (.int (nT s l w)))) M o) : dp_run X (d + 2 + 1) 47 [.ref 0, .int (nI w)] n M o Q := by
  apply k_run
  intro K hK
  rw [mL_47]
  show K 0 [some (.ref 0), some (.int (nI w))] [] n 0 0 M o
  have hA16 := hC.w.1
  have hC6 := hC.w.2.1
  refine k_iload_n hK ti_47_0 rfl ?_
  have hw7 : w = 0 ∨ w = 1 ∨ w = 2 ∨ w = 3 ∨ w = 4 ∨ w = 5 ∨ w = 6 := by omega
  rcases hw7 with rfl | rfl | rfl | rfl | rfl | rfl | rfl
  · refine k_swl hK (off := 39) ti_47_1 (by decide) rfl (by decide) jt_1_39 ?_
    refine k_aload_n hK ti_47_40 rfl ?_
    refine k_get hK ti_47_41 ow_47 fd_3_10 (by omega) rfl rfl ?_
    refine k_geti hK (nI (g_nA s)) ti_47_44 ow_47 fd_3_50 (by omega) rfl rfl hC.nA ?_
    refine k_ireturn hK ti_47_47 rk_47 mc_47 ms_47 (Nat.le_of_ble_eq_true rfl) (Nat.le_of_ble_eq_true rfl) ?_
    exact h
  · refine k_swl hK (off := 47) ti_47_1 (by decide) rfl (by decide) jt_1_47 ?_
    refine k_aload_n hK ti_47_48 rfl ?_
    refine k_get hK ti_47_49 ow_47 fd_3_19 (by omega) rfl rfl ?_
    refine k_geti hK (nI (g_nC s)) ti_47_52 ow_47 fd_3_86 (by omega) rfl rfl hC.nC ?_
    refine k_ireturn hK ti_47_55 rk_47 mc_47 ms_47 (Nat.le_of_ble_eq_true rfl) (Nat.le_of_ble_eq_true rfl) ?_
    exact h
  · refine k_swl hK (off := 55) ti_47_1 (by decide) rfl (by decide) jt_1_55 ?_
    refine k_aload_n hK ti_47_56 rfl ?_
    refine k_get hK ti_47_57 ow_47 fd_3_10 (by omega) rfl rfl ?_
    refine k_callV hK (as := []) (st' := []) ti_47_60 ow_47 iv_3_234 mc_47 ms_47 rfl rfl (by omega) (Nat.le_of_ble_eq_true rfl) (Nat.le_of_ble_eq_true rfl) (Nat.le_of_ble_eq_true rfl) (Nat.le_of_ble_eq_true rfl) (by omega) rfl ?_
    refine sp_X2_wordsInAll (by omega)  hC  ?_
    refine k_ireturn hK ti_47_63 rk_47 mc_47 ms_47 (Nat.le_of_ble_eq_true rfl) (Nat.le_of_ble_eq_true rfl) ?_
    exact h
  · refine k_swl hK (off := 63) ti_47_1 (by decide) rfl (by decide) jt_1_63 ?_
    refine k_aload_n hK ti_47_64 rfl ?_
    refine k_get hK ti_47_65 ow_47 fd_3_10 (by omega) rfl rfl ?_
    refine k_callV hK (as := []) (st' := []) ti_47_68 ow_47 iv_3_237 mc_47 ms_47 rfl rfl (by omega) (Nat.le_of_ble_eq_true rfl) (Nat.le_of_ble_eq_true rfl) (Nat.le_of_ble_eq_true rfl) (Nat.le_of_ble_eq_true rfl) (by omega) rfl ?_
    refine sp_X2_stemsInAll (by omega)  hC  ?_
    refine k_ireturn hK ti_47_71 rk_47 mc_47 ms_47 (Nat.le_of_ble_eq_true rfl) (Nat.le_of_ble_eq_true rfl) ?_
    exact h
  · refine k_swl hK (off := 71) ti_47_1 (by decide) rfl (by decide) jt_1_71 ?_
    refine k_aload_n hK ti_47_72 rfl ?_
    refine k_get hK ti_47_73 ow_47 fd_3_26 (by omega) rfl rfl ?_
    refine k_geti hK (l_rnd l) ti_47_76 ow_47 fd_3_240 (by omega) rfl rfl hN.2.2.2 ?_
    refine k_ireturn hK ti_47_79 rk_47 mc_47 ms_47 (Nat.le_of_ble_eq_true rfl) (Nat.le_of_ble_eq_true rfl) ?_
    exact h
  · refine k_swl hK (off := 79) ti_47_1 (by decide) rfl (by decide) jt_1_79 ?_
    refine k_aload_n hK ti_47_80 rfl ?_
    refine k_get hK ti_47_81 ow_47 fd_3_26 (by omega) rfl rfl ?_
    refine k_callV hK (as := []) (st' := []) ti_47_84 ow_47 iv_3_132 mc_47 ms_47 rfl rfl (by omega) (Nat.le_of_ble_eq_true rfl) (Nat.le_of_ble_eq_true rfl) (Nat.le_of_ble_eq_true rfl) (Nat.le_of_ble_eq_true rfl) (by omega) rfl ?_
    refine sp_X0_sentInAll (by omega) hC hN hV ?_
    refine k_ireturn hK ti_47_87 rk_47 mc_47 ms_47 (Nat.le_of_ble_eq_true rfl) (Nat.le_of_ble_eq_true rfl) ?_
    exact h
  · refine k_swd hK ti_47_1 (by decide) (by decide) (by decide) jt_1_87 ?_
    refine k_aload_n hK ti_47_88 rfl ?_
    refine k_get hK ti_47_89 ow_47 fd_3_26 (by omega) rfl rfl ?_
    refine k_callV hK (as := []) (st' := []) ti_47_92 ow_47 iv_3_180 mc_47 ms_47 rfl rfl (by omega) (Nat.le_of_ble_eq_true rfl) (Nat.le_of_ble_eq_true rfl) (Nat.le_of_ble_eq_true rfl) (Nat.le_of_ble_eq_true rfl) (by omega) rfl ?_
    refine sp_X0_paidInAll (by omega) hC hN hV ?_
    refine k_ireturn hK ti_47_95 rk_47 mc_47 ms_47 (Nat.le_of_ble_eq_true rfl) (Nat.le_of_ble_eq_true rfl) ?_
    exact h

set_option maxRecDepth 100000 in
set_option maxHeartbeats 4000000 in
theorem sp_X3_mean {X : dp_X} {d n : Nat} {M : dp_M} {o : dp_O} {Q : dp_Q} (h65 : 65 ≤ n) {s : GSt} {l : LSt} (hC : CG M s) (hN : CLn M l) (hV : WFL s l) (h : Q (.inl (some (.double (men s l)))) M o) : dp_run X (d + 2 + 1) 37 [.ref 0] n M o Q := by
  apply k_run
  intro K hK
  rw [mL_37]
  show K 0 [some (.ref 0), none] [] n 0 0 M o
  have hA16 := hC.w.1
  have hC6 := hC.w.2.1
  have hsn : sntA s l ≤ g_nC s * 16 := sN_le (fun k hk => Nat.le_trans (cnt_le _ _) hA16)
  refine k_aload_n hK ti_37_0 rfl ?_
  refine k_get hK ti_37_1 ow_37 fd_3_26 (by omega) rfl rfl ?_
  refine k_callV hK (as := []) (st' := []) ti_37_4 ow_37 iv_3_132 mc_37 ms_37 rfl rfl (by omega) (Nat.le_of_ble_eq_true rfl) (Nat.le_of_ble_eq_true rfl) (Nat.le_of_ble_eq_true rfl) (Nat.le_of_ble_eq_true rfl) (by omega) rfl ?_
  refine sp_X0_sentInAll (by omega) hC hN hV ?_
  refine k_istore_n hK (L' := [some (.ref 0), some (.int _)]) ti_37_7 rfl ?_
  refine k_iload_n hK ti_37_8 rfl ?_
  refine kz_gt hK (by omega) ti_37_9 jt_9_5 (fun c_9 => ?_) (fun c_9 => ?_)
  · have e : men s l = FP.ddiv (FP.i2d (pdA s l)) (FP.i2d (nI (sntA s l))) := by unfold men; rw [if_neg (by omega)]
    rw [e] at h
    refine k_aload_n hK ti_37_14 rfl ?_
    refine k_get hK ti_37_15 ow_37 fd_3_26 (by omega) rfl rfl ?_
    refine k_callV hK (as := []) (st' := []) ti_37_18 ow_37 iv_3_180 mc_37 ms_37 rfl rfl (by omega) (Nat.le_of_ble_eq_true rfl) (Nat.le_of_ble_eq_true rfl) (Nat.le_of_ble_eq_true rfl) (Nat.le_of_ble_eq_true rfl) (by omega) rfl ?_
    refine sp_X0_paidInAll (by omega) hC hN hV ?_
    refine k_i2d hK ti_37_21 ?_
    refine k_iload_n hK ti_37_22 rfl ?_
    refine k_i2d hK ti_37_23 ?_
    refine k_ddiv hK ti_37_24 (men_nn (by omega) (by omega)) ?_
    refine k_dreturn hK ti_37_25 rk_37 mc_37 ms_37 (Nat.le_of_ble_eq_true rfl) (Nat.le_of_ble_eq_true rfl) ?_
    exact h
  · have e : men s l = FP.dconst0 := by unfold men; rw [if_pos (by omega)]
    rw [e] at h
    refine k_dconst hK ti_37_12 ?_
    refine k_dreturn hK ti_37_13 rk_37 mc_37 ms_37 (Nat.le_of_ble_eq_true rfl) (Nat.le_of_ble_eq_true rfl) ?_
    exact h




