/-! The reference: sending, rounds. (written by wip/whole/ref3.py) -/
set_option maxRecDepth 100000 in
set_option maxHeartbeats 4000000 in
theorem sp_X4_sendTo {X : dp_X} {d n : Nat} {M : dp_M} {o : Int64} {Q : dp_Q} (h65 : 65 ≤ n) {s : GSt} {l : LSt} (c : Nat) (hG : RG M s) (hL : RLt M l) (hc : c < g_nC s) (h : ∀ M', Fr wL M M' → RG M' s → RLt M' (sendL s l c) → Q (.inl (some (.int (oI (snd1 s l c))))) M' o) : dp_run X (d + 6 + 1) 95 [.ref 22, .int (nI c)] n M o Q := by
  apply k_run
  intro K hK
  rw [mL_95]
  show K 0 [some (.ref 22), some (.int (nI c)), none, none] [] n 0 0 M o
  have hA16 := hG.1.1
  have hC6 := hG.1.2.1
  refine k_aload_n hK ti_95_0 rfl ?_
  refine k_iload_n hK ti_95_1 rfl ?_
  refine k_iconst hK ti_95_2 kI_0 ?_
  refine k_callV hK (as := [.int _, .int _]) (st' := []) ti_95_3 ow_95 iv_4_91 mc_95 ms_95 rfl rfl (by omega) (Nat.le_of_ble_eq_true rfl) (Nat.le_of_ble_eq_true rfl) (Nat.le_of_ble_eq_true rfl) (Nat.le_of_ble_eq_true rfl) (by omega) rfl ?_
  refine sp_X4_fitAt (by omega) c 0 hG hL (by omega) (by omega) ?_
  rcases hfa : fA s l c 0 with _ | a
  · have e : snd1 s l c = none := by simp only [snd1, hfa]
    refine k_istore_n hK (L' := [some (.ref 22), some (.int _), some (.int _), none]) ti_95_6 rfl ?_
    refine k_iload_n hK ti_95_7 rfl ?_
    refine k_iconst hK ti_95_8 kI_m1 ?_
    refine k_icmp_eq hK ti_95_9 jt_9_18 (fun c_9 => ?_) (fun c_9 => ?_)
    · refine k_iconst hK ti_95_27 kI_m1 ?_
      refine k_ireturn hK ti_95_28 rk_95 mc_95 ms_95 (Nat.le_of_ble_eq_true rfl) (Nat.le_of_ble_eq_true rfl) ?_
      have h := h M (Fr.refl _ _) hG (by rw [sendL_none e]; exact hL)
      rw [e] at h
      exact h
    · exact absurd rfl c_9
  · have ha := fA_lt hfa
    refine k_istore_n hK (L' := [some (.ref 22), some (.int _), some (.int _), none]) ti_95_6 rfl ?_
    refine k_iload_n hK ti_95_7 rfl ?_
    refine k_iconst hK ti_95_8 kI_m1 ?_
    refine k_icmp_eq hK ti_95_9 jt_9_18 (fun c_9 => ?_) (fun c_9 => ?_)
    · exact absurd c_9 (nI_nm1 (by omega))
    · refine k_aload_n hK ti_95_12 rfl ?_
      refine k_iload_n hK ti_95_13 rfl ?_
      refine k_iload_n hK ti_95_14 rfl ?_
      refine k_callV hK (as := [.int _, .int _]) (st' := []) ti_95_15 ow_95 iv_4_94 mc_95 ms_95 rfl rfl (by omega) (Nat.le_of_ble_eq_true rfl) (Nat.le_of_ble_eq_true rfl) (Nat.le_of_ble_eq_true rfl) (Nat.le_of_ble_eq_true rfl) (by omega) rfl ?_
      refine sp_X4_price (by omega) c a hG hL (by omega) (by omega) ?_
      refine k_aload_n hK ti_95_18 rfl ?_
      refine k_iload_n hK ti_95_19 rfl ?_
      refine k_iconst hK ti_95_20 kI_0 ?_
      refine k_callV hK (as := [.int _, .int _]) (st' := [.int _]) ti_95_21 ow_95 iv_4_61 mc_95 ms_95 rfl rfl (by omega) (Nat.le_of_ble_eq_true rfl) (Nat.le_of_ble_eq_true rfl) (Nat.le_of_ble_eq_true rfl) (Nat.le_of_ble_eq_true rfl) (by omega) rfl ?_
      refine sp_X4_cl (by omega) c 0 (by omega) (by omega) (k_aftv ((l_coin l c)) ((hL.2.2.1 c (by omega)).1) ?_)
      refine k_icmp_le hK ti_95_24 jt_24_5 (fun c_24 => ?_) (fun c_24 => ?_)
      · have e : snd1 s l c = none := by simp only [snd1, hfa, if_pos c_24]
        refine k_iconst hK ti_95_27 kI_m1 ?_
        refine k_ireturn hK ti_95_28 rk_95 mc_95 ms_95 (Nat.le_of_ble_eq_true rfl) (Nat.le_of_ble_eq_true rfl) ?_
        have h := h M (Fr.refl _ _) hG (by rw [sendL_none e]; exact hL)
        rw [e] at h
        exact h
      · have e : snd1 s l c = some a := by simp only [snd1, hfa, if_neg c_24]
        refine k_aload_n hK ti_95_29 rfl ?_
        refine k_iload_n hK ti_95_30 rfl ?_
        refine k_iload_n hK ti_95_31 rfl ?_
        refine k_callV hK (as := [.int _, .int _]) (st' := []) ti_95_32 ow_95 iv_4_94 mc_95 ms_95 rfl rfl (by omega) (Nat.le_of_ble_eq_true rfl) (Nat.le_of_ble_eq_true rfl) (Nat.le_of_ble_eq_true rfl) (Nat.le_of_ble_eq_true rfl) (by omega) rfl ?_
        refine sp_X4_price (by omega) c a hG hL (by omega) (by omega) ?_
        refine k_istore_n hK (L' := [some (.ref 22), some (.int _), some (.int _), some (.int _)]) ti_95_35 rfl ?_
        refine k_aload_n hK ti_95_36 rfl ?_
        refine k_iload_n hK ti_95_37 rfl ?_
        refine k_iconst hK ti_95_38 kI_0 ?_
        refine k_aload_n hK ti_95_39 rfl ?_
        refine k_iload_n hK ti_95_40 rfl ?_
        refine k_iconst hK ti_95_41 kI_0 ?_
        refine k_callV hK (as := [.int _, .int _]) (st' := [.int _, .int _, .ref 22]) ti_95_42 ow_95 iv_4_61 mc_95 ms_95 rfl rfl (by omega) (Nat.le_of_ble_eq_true rfl) (Nat.le_of_ble_eq_true rfl) (Nat.le_of_ble_eq_true rfl) (Nat.le_of_ble_eq_true rfl) (by omega) rfl ?_
        refine sp_X4_cl (by omega) c 0 (by omega) (by omega) (k_aftv ((l_coin l c)) ((hL.2.2.1 c (by omega)).1) ?_)
        refine k_iload_n hK ti_95_45 rfl ?_
        refine k_isub hK ti_95_46 rfl ?_
        refine k_callV hK (as := [.int _, .int _, .int _]) (st' := []) ti_95_47 ow_95 iv_4_57 mc_95 ms_95 rfl rfl (by omega) (Nat.le_of_ble_eq_true rfl) (Nat.le_of_ble_eq_true rfl) (Nat.le_of_ble_eq_true rfl) (Nat.le_of_ble_eq_true rfl) (by omega) rfl ?_
        refine sp_X4_put (by omega) c 0 _ (by omega) (by omega) ?_
        refine k_aload_n hK ti_95_50 rfl ?_
        refine k_iload_n hK ti_95_51 rfl ?_
        refine k_iconst hK ti_95_52 kI_3 ?_
        refine k_aload_n hK ti_95_53 rfl ?_
        refine k_iload_n hK ti_95_54 rfl ?_
        refine k_iconst hK ti_95_55 kI_3 ?_
        refine k_callV hK (as := [.int _, .int _]) (st' := [.int _, .int _, .ref 22]) ti_95_56 ow_95 iv_4_61 mc_95 ms_95 rfl rfl (by omega) (Nat.le_of_ble_eq_true rfl) (Nat.le_of_ble_eq_true rfl) (Nat.le_of_ble_eq_true rfl) (Nat.le_of_ble_eq_true rfl) (by omega) rfl ?_
        refine sp_X4_cl (by omega) _ _ (by omega) (by omega) (k_aftv ((l_paid l c)) ((dp_up_k (by omega)).trans (hL.2.2.1 c (by omega)).2.1) ?_)
        refine k_iload_n hK ti_95_59 rfl ?_
        refine k_iadd hK ti_95_60 rfl ?_
        refine k_callV hK (as := [.int _, .int _, .int _]) (st' := []) ti_95_61 ow_95 iv_4_57 mc_95 ms_95 rfl rfl (by omega) (Nat.le_of_ble_eq_true rfl) (Nat.le_of_ble_eq_true rfl) (Nat.le_of_ble_eq_true rfl) (Nat.le_of_ble_eq_true rfl) (by omega) rfl ?_
        refine sp_X4_put (by omega) c 3 _ (by omega) (by omega) ?_
        refine k_aload_n hK ti_95_64 rfl ?_
        refine k_iload_n hK ti_95_65 rfl ?_
        refine k_iconst hK ti_95_66 kI_4 ?_
        refine k_aload_n hK ti_95_67 rfl ?_
        refine k_iload_n hK ti_95_68 rfl ?_
        refine k_iconst hK ti_95_69 kI_4 ?_
        refine k_callV hK (as := [.int _, .int _]) (st' := [.int _, .int _, .ref 22]) ti_95_70 ow_95 iv_4_61 mc_95 ms_95 rfl rfl (by omega) (Nat.le_of_ble_eq_true rfl) (Nat.le_of_ble_eq_true rfl) (Nat.le_of_ble_eq_true rfl) (Nat.le_of_ble_eq_true rfl) (by omega) rfl ?_
        refine sp_X4_cl (by omega) _ _ (by omega) (by omega) (k_aftv ((nI (l_sent l c))) ((dp_up_k (by omega)).trans ((dp_up_k (by omega)).trans (hL.2.2.1 c (by omega)).2.2)) ?_)
        refine k_iconst hK ti_95_73 kI_1 ?_
        refine k_iload_n hK ti_95_74 rfl ?_
        refine k_ishl hK (z := (nI (2 ^ a))) ti_95_75 (nI_shl1 (by omega)) ?_
        refine k_ior hK (z := (nI (l_sent l c ||| 2 ^ a))) ti_95_76 nI_or ?_
        refine k_callV hK (as := [.int _, .int _, .int _]) (st' := []) ti_95_77 ow_95 iv_4_57 mc_95 ms_95 rfl rfl (by omega) (Nat.le_of_ble_eq_true rfl) (Nat.le_of_ble_eq_true rfl) (Nat.le_of_ble_eq_true rfl) (Nat.le_of_ble_eq_true rfl) (by omega) rfl ?_
        refine sp_X4_put (by omega) c 4 _ (by omega) (by omega) ?_
        refine k_iload_n hK ti_95_80 rfl ?_
        refine k_ireturn hK ti_95_81 rk_95 mc_95 ms_95 (Nat.le_of_ble_eq_true rfl) (Nat.le_of_ble_eq_true rfl) ?_
        have hF : Fr wL M (dp_up (dp_up (dp_up M 25 (10 * c + 0) (l_coin l c - prc s l c a)) 25 (10 * c + 3) (l_paid l c + prc s l c a)) 25 (10 * c + 4) (nI (l_sent l c ||| 2 ^ a))) := Fr.up (Fr.up (Fr.up (Fr.refl _ _) (wL_0 c)) (wL_3 c)) (wL_4 c)
        have hL2 := hL.up_coin (c := c) (by omega) (a := a) (by omega) (prc s l c a)
        rw [← sendL_some e] at hL2
        have h := h _ hF (hF.RG hG) hL2
        rw [e] at h
        exact h

set_option maxRecDepth 100000 in
set_option maxHeartbeats 4000000 in
theorem sp_X4_roundOn {X : dp_X} {d n : Nat} {M : dp_M} {o : Int64} {Q : dp_Q} (h65 : 65 ≤ n) {s : GSt} {l : LSt} (hG : RG M s) (hL : RLt M l) (h : ∀ M', Fr wL M M' → RG M' s → RLt M' (roundL s l) → Q (.inl (some (.int (nI (rdn s l))))) M' o) : dp_run X (d + 7 + 1) 97 [.ref 22] n M o Q := by
  apply k_run
  intro K hK
  rw [mL_97]
  show K 0 [some (.ref 22), none, none] [] n 0 0 M o
  have hGs := hG
  have hA16 := hG.1.1
  have hC6 := hG.1.2.1
  have hcl := fun i => cnt_le (fun k => (snd1 s (tw s l k) (k / 2)).isSome) i
  refine k_iconst hK ti_97_0 kI_0 ?_
  refine k_istore_n hK (L' := [some (.ref 22), some (.int _), none]) ti_97_1 rfl ?_
  refine k_iconst hK ti_97_2 kI_0 ?_
  refine k_istore_n hK (L' := [some (.ref 22), some (.int _), some (.int _)]) ti_97_3 rfl ?_
  have loop : ∀ (f i : Nat) (M' : dp_M), i ≤ (2 * g_nC s) → (2 * g_nC s) - i < f → (Fr wL M M') → (RG M' s) → (RLt M' (tw s l i)) → K 4 [some (.ref 22), some (.int (nI (twn s l i))), some (.int (nI i))] [] n 0 0 M' o := by
    intro f
    induction f with
    | zero => intro i M' h1 h2; omega
    | succ f ih =>
      intro i M' h1 h2 hF hG hL
      have hcl1 := hcl i
      refine k_iload_n hK ti_97_4 rfl ?_
      refine k_iconst hK ti_97_5 kI_2 ?_
      refine k_aload_n hK ti_97_6 rfl ?_
      refine k_geti hK (nI (g_nC s)) ti_97_7 ow_97 fd_4_30 (by omega) rfl rfl hG.2.2.1 ?_
      refine k_imul hK (z := (nI (2 * (g_nC s)))) ti_97_10 (pk_mul _ _) ?_
      refine kn_ge hK (by omega) (by omega) ti_97_11 jt_11_28 (fun c_11 => ?_) (fun c_11 => ?_)
      · have hq2 : i / 2 < g_nC s := by omega
        refine k_iload_n hK ti_97_14 rfl ?_
        refine k_aload_n hK ti_97_15 rfl ?_
        refine k_iload_n hK ti_97_16 rfl ?_
        refine k_iconst hK ti_97_17 kI_2 ?_
        refine k_idiv hK (z := (nI (i / 2))) ti_97_18 (by decide) (pk_div (by omega) (by omega) (by omega)) ?_
        refine k_callV hK (as := [.int _]) (st' := [.int _]) ti_97_19 ow_97 iv_4_97 mc_97 ms_97 rfl rfl (by omega) (Nat.le_of_ble_eq_true rfl) (Nat.le_of_ble_eq_true rfl) (Nat.le_of_ble_eq_true rfl) (Nat.le_of_ble_eq_true rfl) (by omega) rfl ?_
        refine sp_X4_sendTo (by omega) (i / 2) hG hL (by omega) (fun M hF1 hG hL => ?_)
        have hF := hF.trans hF1
        rcases hsn : snd1 s (tw s l i) (i / 2) with _ | a
        · have e : twn s l (i + 1) = twn s l i := cnt_f (by rw [hsn]; rfl)
          refine k_iconst hK ti_97_22 kI_m1 ?_
          refine k_icmp_ne hK ti_97_23 jt_23_7 (fun c_23 => ?_) (fun c_23 => ?_)
          · refine k_iconst hK ti_97_26 kI_0 ?_
            refine k_goto hK ti_97_27 jt_27_4 ?_
            refine k_iadd hK (z := (nI (twn s l (i + 1)))) ti_97_31 (by rw [e, nI_add, Nat.add_zero]) ?_
            refine k_istore_n hK (L' := [some (.ref 22), some (.int _), some (.int _)]) ti_97_32 rfl ?_
            refine k_iinc hK (L' := [some (.ref 22), some (.int _), some (.int (nI (i + 1)))]) ti_97_33 rfl (by rw [kI_1, nI_add]) rfl ?_
            refine k_goto hK ti_97_36 jt_36_m32 ?_
            exact ih (i + 1) _ (by omega) (by omega) hF hG hL
          · exact absurd rfl c_23
        · have ha := fA_lt (snd1_some hsn)
          have e : twn s l (i + 1) = twn s l i + 1 := cnt_t (by rw [hsn]; rfl)
          refine k_iconst hK ti_97_22 kI_m1 ?_
          refine k_icmp_ne hK ti_97_23 jt_23_7 (fun c_23 => ?_) (fun c_23 => ?_)
          · exact absurd c_23 (nI_nm1 (by omega))
          · refine k_iconst hK ti_97_30 kI_1 ?_
            refine k_iadd hK (z := (nI (twn s l (i + 1)))) ti_97_31 (by rw [e, nI_add]) ?_
            refine k_istore_n hK (L' := [some (.ref 22), some (.int _), some (.int _)]) ti_97_32 rfl ?_
            refine k_iinc hK (L' := [some (.ref 22), some (.int _), some (.int (nI (i + 1)))]) ti_97_33 rfl (by rw [kI_1, nI_add]) rfl ?_
            refine k_goto hK ti_97_36 jt_36_m32 ?_
            exact ih (i + 1) _ (by omega) (by omega) hF hG hL
      · obtain rfl : i = 2 * g_nC s := by omega
        refine k_iconst hK ti_97_39 kI_0 ?_
        refine k_istore_n hK (L' := [some (.ref 22), some (.int _), some (.int _)]) ti_97_40 rfl ?_
        have loop2 : ∀ (f2 j : Nat) (M' : dp_M), j ≤ (g_nA s) → (g_nA s) - j < f2 → (Fr wL M M') → (RG M' s) → (RLt M' (oldp (tw s l (2 * g_nC s)) j)) → K 41 [some (.ref 22), some (.int (nI (twn s l (2 * g_nC s)))), some (.int (nI j))] [] n 0 0 M' o := by
          intro f2
          induction f2 with
          | zero => intro j M' h12 h22; omega
          | succ f2 ih2 =>
            intro j M' h12 h22 hF hG hL
            refine k_iload_n hK ti_97_41 rfl ?_
            refine k_aload_n hK ti_97_42 rfl ?_
            refine k_geti hK (nI (g_nA s)) ti_97_43 ow_97 fd_4_23 (by omega) rfl rfl hG.2.1 ?_
            refine kn_ge hK (by omega) (by omega) ti_97_46 jt_46_24 (fun c_46 => ?_) (fun c_46 => ?_)
            · refine k_aload_n hK ti_97_49 rfl ?_
              refine k_get hK ti_97_50 ow_97 fd_4_13 (by omega) rfl rfl ?_
              refine k_bipush hK ti_97_53 kB_14 ?_
              refine k_iload_n hK ti_97_55 rfl ?_
              refine k_imul hK (z := (nI (14 * j))) ti_97_56 (pk_mul _ _) ?_
              refine k_iconst hK ti_97_57 kI_1 ?_
              refine k_iadd hK (z := (nI (14 * j + 1))) ti_97_58 (nI_add _ _) ?_
              refine k_dup2 hK ti_97_59 rfl rfl ?_
              refine k_ialdv (v := (l_age (tw s l (2 * g_nC s)) j)) hK (14 * j + 1) ti_97_60 rfl (by omega) (by omega) rfl (by rw [dpl_24]; omega) (hL.at_age (by omega)) ?_
              refine k_iconst hK ti_97_61 kI_1 ?_
              refine k_iadd hK ti_97_62 rfl ?_
              refine k_iast hK (14 * j + 1) ti_97_63 rfl (by omega) rfl (by rw [dpl_24]; omega) ?_
              refine k_iinc hK (L' := [some (.ref 22), some (.int _), some (.int (nI (j + 1)))]) ti_97_64 rfl (by rw [kI_1, nI_add]) rfl ?_
              refine k_goto hK ti_97_67 jt_67_m26 ?_
              exact ih2 (j + 1) _ (by omega) (by omega) (hF.up (wL_a j)) ((Fr.up (Fr.refl _ _) (wL_a j) : Fr wL _ _).RG hG) hL.up_age
            · obtain rfl : j = g_nA s := by omega
              refine k_aload_n hK ti_97_70 rfl ?_
              refine k_dup hK ti_97_71 rfl ?_
              refine k_geti hK (l_rnd (tw s l (2 * g_nC s))) ti_97_72 ow_97 fd_4_100 (by omega) rfl rfl hL.2.2.2 ?_
              refine k_iconst hK ti_97_75 kI_1 ?_
              refine k_iadd hK ti_97_76 rfl ?_
              refine k_put hK ti_97_77 ow_97 fd_4_100 (by omega) rfl rfl ?_
              refine k_iload_n hK ti_97_80 rfl ?_
              refine k_ireturn hK ti_97_81 rk_97 mc_97 ms_97 (Nat.le_of_ble_eq_true rfl) (Nat.le_of_ble_eq_true rfl) ?_
              have hF2 : Fr wL M' (dp_up M' 22 3 (l_rnd (tw s l (2 * g_nC s)) + nI 1)) := Fr.up (Fr.refl _ _) wL_r
              exact h _ (hF.trans hF2) (hF2.RG hG) hL.up_rnd
        exact loop2 ((g_nA s) - 0 + 1) 0 _ (by omega) (by omega) hF hG (by rw [oldp_0]; exact hL)
  exact loop ((2 * g_nC s) - 0 + 1) 0 _ (by omega) (by omega) (Fr.refl _ _) hG hL

set_option maxRecDepth 100000 in
set_option maxHeartbeats 4000000 in
theorem sp_X4_roundsOn {X : dp_X} {d n : Nat} {M : dp_M} {o : Int64} {Q : dp_Q} (h65 : 65 ≤ n) {s : GSt} {l : LSt} (k : Nat) (hG : RG M s) (hL : RLt M l) (hk : k ≤ 30) (h : ∀ M', Fr wL M M' → RG M' s → RLt M' (roundsL s l k) → Q (.inl (some (.int (nI (rdsn s l k))))) M' o) : dp_run X (d + 8 + 1) 98 [.ref 22, .int (nI k)] n M o Q := by
  apply k_run
  intro K hK
  rw [mL_98]
  show K 0 [some (.ref 22), some (.int (nI k)), none, none] [] n 0 0 M o
  have hGs := hG
  have hA16 := hG.1.1
  have hC6 := hG.1.2.1
  refine k_iconst hK ti_98_0 kI_0 ?_
  refine k_istore_n hK (L' := [some (.ref 22), some (.int _), some (.int _), none]) ti_98_1 rfl ?_
  refine k_iconst hK ti_98_2 kI_0 ?_
  refine k_istore_n hK (L' := [some (.ref 22), some (.int _), some (.int _), some (.int _)]) ti_98_3 rfl ?_
  have loop : ∀ (f i : Nat) (M' : dp_M), i ≤ k → k - i < f → (Fr wL M M') → (RG M' s) → (RLt M' (roundsL s l i)) → K 4 [some (.ref 22), some (.int (nI k)), some (.int (nI (rdsn s l i))), some (.int (nI i))] [] n 0 0 M' o := by
    intro f
    induction f with
    | zero => intro i M' h1 h2; omega
    | succ f ih =>
      intro i M' h1 h2 hF hG hL
      refine k_iload_n hK ti_98_4 rfl ?_
      refine k_iload_n hK ti_98_5 rfl ?_
      refine kn_ge hK (by omega) (by omega) ti_98_6 jt_6_16 (fun c_6 => ?_) (fun c_6 => ?_)
      · refine k_iload_n hK ti_98_9 rfl ?_
        refine k_aload_n hK ti_98_10 rfl ?_
        refine k_callV hK (as := []) (st' := [.int _]) ti_98_11 ow_98 iv_4_103 mc_98 ms_98 rfl rfl (by omega) (Nat.le_of_ble_eq_true rfl) (Nat.le_of_ble_eq_true rfl) (Nat.le_of_ble_eq_true rfl) (Nat.le_of_ble_eq_true rfl) (by omega) rfl ?_
        refine sp_X4_roundOn (by omega) hG hL (fun M hF1 hG hL => ?_)
        have hF := hF.trans hF1
        refine k_iadd hK (z := (nI (rdsn s l (i + 1)))) ti_98_14 (nI_add _ _) ?_
        refine k_istore_n hK (L' := [some (.ref 22), some (.int _), some (.int _), some (.int _)]) ti_98_15 rfl ?_
        refine k_iinc hK (L' := [some (.ref 22), some (.int _), some (.int _), some (.int (nI (i + 1)))]) ti_98_16 rfl (by rw [kI_1, nI_add]) rfl ?_
        refine k_goto hK ti_98_19 jt_19_m15 ?_
        exact ih (i + 1) _ (by omega) (by omega) hF hG hL
      · obtain rfl : i = k := by omega
        refine k_iload_n hK ti_98_22 rfl ?_
        refine k_ireturn hK ti_98_23 rk_98 mc_98 ms_98 (Nat.le_of_ble_eq_true rfl) (Nat.le_of_ble_eq_true rfl) ?_
        exact h _ hF hG hL
  exact loop (k - 0 + 1) 0 _ (by omega) (by omega) (Fr.refl _ _) hG hL
