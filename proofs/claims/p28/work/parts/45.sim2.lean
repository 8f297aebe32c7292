/-! The law's own bureau: what is made, sending, rounds. (written by wip/p28/sim2.py) -/
set_option maxRecDepth 100000 in
set_option maxHeartbeats 4000000 in
theorem sp_X4_init {X : dp_X} {d n : Nat} {M : dp_M} {o : dp_O} {Q : dp_Q} (h65 : 65 ≤ n) (c9 : Nat) (hO : OB o c9 4 [.int 0, .int 0, .int 0, .null, .null]) (h : ∀ o1 v b, o v = none → o b = none → Wr o o1 c9 ∨ True → (∀ k c, k ≠ c9 → o k = some c → o1 k = some c) → OB o1 c9 4 [.int 0, .int (nI 20), .int 0, .ref v, .ref b] → IA o1 v 0 (fun _ => nI 0) → BA o1 b 16 (fun _ => nI 0) → Q (.inl none) M o1) : dp_run X (d + 0 + 1) 59 [.ref c9] n M o Q := by
  apply k_run
  intro K hK
  rw [mL_59]
  show K 0 [some (.ref c9)] [] n 0 0 M o
  refine k_aload_n hK ti_59_0 rfl ?_
  refine k_objI hK ti_59_1 ow_59 nt_4_1 (Nat.le_of_ble_eq_true rfl) ?_
  refine k_aload_n hK ti_59_4 rfl ?_
  refine k_bipush hK ti_59_5 kB_20 ?_
  refine n_put hK [.int 0, .int (nI 20), .int 0, .null, .null] ti_59_7 ow_59 fd_4_7 (Or.inl rfl) hO (Nat.le_of_ble_eq_true rfl) rfl rfl (fun o_7 w_7 a_7 => ?_)
  refine k_aload_n hK ti_59_10 rfl ?_
  refine k_iconst hK ti_59_11 kI_0 ?_
  refine n_newI hK 0 ti_59_12 mc_59 ms_59 rfl (by omega) (by omega) (by omega) (fun v o_12 f_12 k_12 a_12 => ?_)
  have hO2 := a_7.kp k_12
  refine n_put hK [.int 0, .int (nI 20), .int 0, .ref v, .null] ti_59_14 ow_59 fd_4_13 (Or.inl rfl) hO2 (Nat.le_of_ble_eq_true rfl) rfl rfl (fun o_14 w_14 a_14 => ?_)
  refine k_aload_n hK ti_59_17 rfl ?_
  refine k_bipush hK ti_59_18 kB_16 ?_
  refine n_newZ hK 16 ti_59_20 mc_59 ms_59 rfl (by omega) (by omega) (by omega) (fun b o_20 f_20 k_20 a_20 => ?_)
  have hO3 := a_14.kp k_20
  refine n_put hK [.int 0, .int (nI 20), .int 0, .ref v, .ref b] ti_59_22 ow_59 fd_4_17 (Or.inl rfl) hO3 (Nat.le_of_ble_eq_true rfl) rfl rfl (fun o_22 w_22 a_22 => ?_)
  refine k_return hK ti_59_25 rk_59 mc_59 ms_59 (by omega) (by omega) ?_
  have n1 : v ≠ c9 := fun z => sm_ne a_7.sm f_12 z.symm
  have n2 : b ≠ c9 := fun z => sm_ne a_14.sm f_20 z.symm
  refine h o_22 v b ((w_7 v n1).symm.trans f_12) ?_ (Or.inr trivial) (fun k c e1 e2 => ?_) a_22 (((a_12.wr w_14 n1).kp k_20).wr w_22 n1) (a_20.wr w_22 n2)
  · have e1 : o_12 b = none := (w_14 b n2).symm.trans f_20
    exact (w_7 b n2).symm.trans (k_12.nn e1)
  · exact (w_22 k e1).trans (k_20 _ _ ((w_14 k e1).trans (k_12 _ _ ((w_7 k e1).trans e2))))

set_option maxRecDepth 100000 in
set_option maxHeartbeats 4000000 in
theorem sp_X5_init {X : dp_X} {d n : Nat} {M : dp_M} {o : dp_O} {Q : dp_Q} (h65 : 65 ≤ n) (S : Nat) (hO : OB o S 5 [.null, .null, .null, .null, .int 0]) (h : ∀ o1 hs hw ha hc, OB o1 S 5 [.ref hs, .ref hw, .ref ha, .ref hc, .int 0] → IA o1 hs 40 (fun x => nI (x / 2)) → RW o1 false hw 0 (fun _ => 0) → IA o1 ha 16 (fun _ => nI 0) → RW o1 true hc 0 (fun _ => 0) → hs ≠ ha → Q (.inl none) M o1) : dp_run X (d + 0 + 1) 60 [.ref S] n M o Q := by
  apply k_run
  intro K hK
  rw [mL_60]
  show K 0 [some (.ref S), none] [] n 0 0 M o
  refine k_aload_n hK ti_60_0 rfl ?_
  refine k_objI hK ti_60_1 ow_60 nt_5_1 (Nat.le_of_ble_eq_true rfl) ?_
  refine k_aload_n hK ti_60_4 rfl ?_
  refine k_bipush hK ti_60_5 kB_40 ?_
  refine n_newI hK 40 ti_60_7 mc_60 ms_60 rfl (by omega) (by omega) (by omega) (fun hs o_7 f_7 k_7 a_7 => ?_)
  have hO0 := hO.kp k_7
  refine n_put hK [.ref hs, .null, .null, .null, .int 0] ti_60_9 ow_60 fd_5_7 (Or.inr rfl) hO0 (Nat.le_of_ble_eq_true rfl) rfl rfl (fun o_9 w_9 a_9 => ?_)
  have hs1 := a_7.wr w_9 (fun z => sm_ne hO.sm f_7 z.symm)
  have hO1 := a_9
  refine k_aload_n hK ti_60_12 rfl ?_
  refine k_iconst hK ti_60_13 kI_0 ?_
  refine n_newR hK false 0 ti_60_14 ow_60 rfl mc_60 ms_60 rfl (by omega) (by omega) (by omega) (fun hw o_14 f_14 k_14 a_14 => ?_)
  replace hs1 := hs1.kp k_14
  replace hO1 := hO1.kp k_14
  refine n_put hK [.ref hs, .ref hw, .null, .null, .int 0] ti_60_17 ow_60 fd_5_14 (Or.inr rfl) hO1 (Nat.le_of_ble_eq_true rfl) rfl rfl (fun o_17 w_17 a_17 => ?_)
  replace hs1 := hs1.wr w_17 (hs1.ne_O hO1)
  have hO2 := a_17
  have hw1 := RW.wr (RP.full a_14) w_17 (RW.ne_O (RP.full a_14) hO1)
  refine k_aload_n hK ti_60_20 rfl ?_
  refine k_bipush hK ti_60_21 kB_16 ?_
  refine n_newI hK 16 ti_60_23 mc_60 ms_60 rfl (by omega) (by omega) (by omega) (fun ha o_23 f_23 k_23 a_23 => ?_)
  have nha : hs ≠ ha := sm_ne hs1.sm f_23
  replace hs1 := hs1.kp k_23
  replace hO2 := hO2.kp k_23
  replace hw1 := hw1.kp k_23
  refine n_put hK [.ref hs, .ref hw, .ref ha, .null, .int 0] ti_60_25 ow_60 fd_5_18 (Or.inr rfl) hO2 (Nat.le_of_ble_eq_true rfl) rfl rfl (fun o_25 w_25 a_25 => ?_)
  replace hs1 := hs1.wr w_25 (hs1.ne_O hO2)
  have hO3 := a_25
  replace hw1 := hw1.wr w_25 (hw1.ne_O hO2)
  have ha1 := a_23.wr w_25 (a_23.ne_O hO2)
  refine k_aload_n hK ti_60_28 rfl ?_
  refine k_iconst hK ti_60_29 kI_0 ?_
  refine n_newR hK true 0 ti_60_30 ow_60 rfl mc_60 ms_60 rfl (by omega) (by omega) (by omega) (fun hc o_30 f_30 k_30 a_30 => ?_)
  replace hs1 := hs1.kp k_30
  replace hO3 := hO3.kp k_30
  replace hw1 := hw1.kp k_30
  replace ha1 := ha1.kp k_30
  refine n_put hK [.ref hs, .ref hw, .ref ha, .ref hc, .int 0] ti_60_33 ow_60 fd_5_23 (Or.inr rfl) hO3 (Nat.le_of_ble_eq_true rfl) rfl rfl (fun o_33 w_33 a_33 => ?_)
  replace hs1 := hs1.wr w_33 (hs1.ne_O hO3)
  have hO4 := a_33
  replace hw1 := hw1.wr w_33 (hw1.ne_O hO3)
  replace ha1 := ha1.wr w_33 (ha1.ne_O hO3)
  have hc1 := RW.wr (RP.full a_30) w_33 (RW.ne_O (RP.full a_30) hO3)
  refine k_iconst hK ti_60_36 kI_0 ?_
  refine k_istore_n hK (L' := [some (.ref S), some (.int _)]) ti_60_37 rfl ?_
  have loop : ∀ (f i : Nat) (o2 : dp_O), i ≤ 40 → 40 - i < f → (OB o2 S 5 [.ref hs, .ref hw, .ref ha, .ref hc, .int 0]) → (IA o2 hs 40 (fun x => if x < i then nI (x / 2) else nI 0)) → (RW o2 false hw 0 (fun _ => 0)) → (IA o2 ha 16 (fun _ => nI 0)) → (RW o2 true hc 0 (fun _ => 0)) → K 38 [some (.ref S), some (.int (nI i))] [] n 4 56 M o2 := by
    intro f
    induction f with
    | zero => intro i o2 h1 h2; omega
    | succ f ih =>
      intro i o2 h1 h2 hO4 hs1 hw1 ha1 hc1
      refine k_iload_n hK ti_60_38 rfl ?_
      refine k_bipush hK ti_60_39 kB_40 ?_
      refine kn_ge hK (by omega) (by omega) ti_60_41 jt_41_18 (fun c_41 => ?_) (fun c_41 => ?_)
      · refine k_aload_n hK ti_60_44 rfl ?_
        refine n_get hK (.ref hs) ti_60_45 ow_60 fd_5_7 hO4 rfl ?_
        refine k_iload_n hK ti_60_48 rfl ?_
        refine k_iload_n hK ti_60_49 rfl ?_
        refine k_iconst hK ti_60_50 kI_2 ?_
        refine k_idiv hK (z := (nI (i / 2))) ti_60_51 (by decide) (pk_div (by omega) (by omega) (by omega)) ?_
        refine n_iast hK i ti_60_52 hs1 (by omega) rfl (by omega) (fun o_52 w_52 a_52 => ?_)
        refine k_iinc hK (L' := [some (.ref S), some (.int (nI (i + 1)))]) ti_60_53 rfl (by rw [kI_1, nI_add]) rfl ?_
        refine k_goto hK ti_60_56 jt_56_m18 ?_
        exact ih (i + 1) _ (by omega) (by omega) (hO4.wr w_52 (hs1.ne_O hO4).symm) (a_52.congr (fun x hx => up_if (f := fun x => nI (x / 2)) (g := fun _ => nI 0) rfl)) (hw1.wr w_52 (hs1.ne_R hw1).symm) (ha1.wr w_52 nha.symm) (hc1.wr w_52 (hs1.ne_R hc1).symm)
      · obtain rfl : i = 40 := by omega
        refine k_return hK ti_60_59 rk_60 mc_60 ms_60 (by omega) (by omega) ?_
        exact h o2 hs hw ha hc hO4 (hs1.congr (fun x hx => if_pos hx)) hw1 ha1 hc1 nha
  refine k_wid hK (c' := 4) (q' := 56) (by omega) (by omega) ?_
  exact loop (40 - 0 + 1) 0 _ (by omega) (by omega) hO4 (hs1.congr (fun x hx => (if_neg (Nat.not_lt_zero x)).symm)) hw1 ha1 hc1

set_option maxRecDepth 100000 in
set_option maxHeartbeats 4000000 in
theorem sp_X5_send {X : dp_X} {d n : Nat} {M : dp_M} {o : dp_O} {Q : dp_Q} (h65 : 65 ≤ n) {S hs hw ha hc : Nat} {W C V B : Nat → Nat} {s : GSt} {l : LSt} (c : Nat) (hW : GW s) (hR : SR o S hs hw ha hc W C V B s l) (hc9 : c < g_nC s) (h : ∀ o1, SR o1 S hs hw ha hc W C V B s (sendL s l c) → KI o o1 (fun _ => False) → Q (.inl (some (.int (oI (snd1 s l c))))) M o1) : dp_run X (d + 3 + 1) 66 [.ref S, .ref (C c)] n M o Q := by
  apply k_run
  intro K hK
  rw [mL_66]
  show K 0 [some (.ref S), some (.ref (C c)), none, none, none] [] n 0 0 M o
  have hA16 := hW.1
  have hC6 := hW.2.1
  have hR0 := hR
  refine k_aload_n hK ti_66_0 rfl ?_
  refine k_aload_n hK ti_66_1 rfl ?_
  refine k_callVd hK (as := [.ref (C c)]) (st' := []) ti_66_2 ow_66 iv_5_62 mc_66 ms_66 rfl rfl (by omega) (Nat.le_of_ble_eq_true rfl) (Nat.le_of_ble_eq_true rfl) (by omega) (by omega) hR.ob ?_
  refine sp_X5_fits (by omega) c hW hR hc9 (fun r o_r f_r k_r a_r => ?_)
  replace hR := hR0.kp k_r
  refine k_astore_n hK (L' := [some (.ref S), some (.ref (C c)), some (.ref r), none, none]) ti_66_5 rfl ?_
  refine k_aload_n hK ti_66_6 rfl ?_
  refine k_callS hK (as := [.ref r]) (st' := []) ti_66_7 ow_66 iv_5_66 mc_66 ms_66 rfl rfl (by omega) (Nat.le_of_ble_eq_true rfl) (Nat.le_of_ble_eq_true rfl) (by omega) (by omega) ?_
  refine sp_X5_best (by omega) r (g_nA s) (FT s l c) (by omega) a_r (k_aftv (oI (fA s l c 0)) (by rw [bst_FT]) ?_)
  refine k_istore_n hK (L' := [some (.ref S), some (.ref (C c)), some (.ref r), some (.int _), none]) ti_66_10 rfl ?_
  refine k_iload_n hK ti_66_11 rfl ?_
  rcases hfa : fA s l c 0 with _ | a
  · have e : snd1 s l c = none := by unfold snd1; rw [hfa]
    rw [sendL_none e, e] at h
    refine k_if_ge hK ti_66_12 jt_12_5 (fun c_12 => ?_) (fun c_12 => ?_)
    · refine k_iconst hK ti_66_15 kI_m1 ?_
      refine k_ireturn hK ti_66_16 rk_66 mc_66 ms_66 (by omega) (by omega) ?_
      exact h o_r hR k_r.ki
    · exact absurd (by decide) c_12
  · have hal := fA_lt hfa
    have hfi := fA_fit hfa
    refine kz_ge hK (by omega) ti_66_12 jt_12_5 ?_
    refine k_aload_n hK ti_66_17 rfl ?_
    refine k_iload_n hK ti_66_18 rfl ?_
    refine n_iald hK ((sc s l c a)) a ti_66_19 a_r (by omega) rfl (by omega) (FT_t hfi) ?_
    refine k_bipush hK ti_66_20 kB_20 ?_
    refine k_idiv hK ti_66_22 (by decide) rfl ?_
    refine k_iconst hK ti_66_23 kI_2 ?_
    refine k_iadd hK (z := (prc s l c a)) ti_66_24 (Int32.add_comm _ _) ?_
    refine k_istore hK (L' := [some (.ref S), some (.ref (C c)), some (.ref r), some (.int _), some (.int _)]) ti_66_25 rfl ?_
    refine k_aload_n hK ti_66_27 rfl ?_
    refine n_get hK (.int (l_coin l c)) ti_66_28 ow_66 fd_5_70 (hR.cl c (by omega)) rfl ?_
    refine k_iload hK ti_66_31 rfl ?_
    refine k_icmp_ge hK ti_66_33 jt_33_5 (fun c_33 => ?_) (fun c_33 => ?_)
    · have e : snd1 s l c = none := by unfold snd1; rw [hfa]; exact if_pos c_33
      rw [sendL_none e, e] at h
      refine k_iconst hK ti_66_36 kI_m1 ?_
      refine k_ireturn hK ti_66_37 rk_66 mc_66 ms_66 (by omega) (by omega) ?_
      exact h o_r hR k_r.ki
    · have e : snd1 s l c = some a := by unfold snd1; rw [hfa]; exact if_neg c_33
      rw [sendL_some e, e] at h
      refine k_aload_n hK ti_66_38 rfl ?_
      refine k_dup hK ti_66_39 rfl ?_
      refine n_get hK (.int (l_coin l c)) ti_66_40 ow_66 fd_5_70 (hR.cl c (by omega)) rfl ?_
      refine k_iload hK ti_66_43 rfl ?_
      refine k_isub hK (z := (l_coin l c - prc s l c a)) ti_66_45 rfl ?_
      refine n_put hK [.int (l_coin l c - prc s l c a), .int (g_bar s c), .int (l_paid l c), .ref (V c), .ref (B c)] ti_66_46 ow_66 fd_5_70 (Or.inl rfl) (hR.cl c (by omega)) (Nat.le_of_ble_eq_true rfl) rfl rfl (fun o_46 w_46 a_46 => ?_)
      have hR1 := hR.coin hc9 w_46 a_46
      refine k_aload_n hK ti_66_49 rfl ?_
      refine k_dup hK ti_66_50 rfl ?_
      refine n_get hK (.int (l_paid l c)) ti_66_51 ow_66 fd_5_73 a_46 rfl ?_
      refine k_iload hK ti_66_54 rfl ?_
      refine k_iadd hK (z := (l_paid l c + prc s l c a)) ti_66_56 rfl ?_
      refine n_put hK [.int (l_coin l c - prc s l c a), .int (g_bar s c), .int (l_paid l c + prc s l c a), .ref (V c), .ref (B c)] ti_66_57 ow_66 fd_5_73 (Or.inl rfl) a_46 (Nat.le_of_ble_eq_true rfl) rfl rfl (fun o_57 w_57 a_57 => ?_)
      have hR2 := hR1.pd (x := l_paid l c + prc s l c a) hc9 w_57 (by rw [show l_coin (setC l c (l_coin l c - prc s l c a)) c = l_coin l c - prc s l c a from if_pos rfl]; exact a_57)
      refine k_aload_n hK ti_66_60 rfl ?_
      refine n_get hK (.ref (B c)) ti_66_61 ow_66 fd_5_55 a_57 rfl ?_
      refine k_iload_n hK ti_66_64 rfl ?_
      refine k_iconst hK ti_66_65 kI_1 ?_
      refine n_bast hK a ti_66_66 (hR2.se c hc9) (by omega) rfl (by omega) rfl (fun o_66 w_66 a_66 => ?_)
      have hR3 := hR2.snt (a := a) hc9 w_66 a_66
      rw [show setN (setP (setC l c (l_coin l c - prc s l c a)) c (l_paid l c + prc s l c a)) c (l_sent (setP (setC l c (l_coin l c - prc s l c a)) c (l_paid l c + prc s l c a)) c ||| 2 ^ a) = book l c a (prc s l c a) from rfl] at hR3
      refine k_iload_n hK ti_66_67 rfl ?_
      refine k_ireturn hK ti_66_68 rk_66 mc_66 ms_66 (by omega) (by omega) ?_
      exact h o_66 hR3 ((k_r.ki).trans ((w_46.kiO (hR.cl c hc9)).trans ((w_57.kiO a_46).trans (w_66.kiB (hR2.se c hc9)))))

set_option maxRecDepth 100000 in
set_option maxHeartbeats 4000000 in
theorem sp_X5_pass {X : dp_X} {d n : Nat} {M : dp_M} {o : dp_O} {Q : dp_Q} (h65 : 65 ≤ n) {S hs hw ha hc : Nat} {W C V B : Nat → Nat} {s : GSt} {l : LSt} (hW : GW s) (hR : SR o S hs hw ha hc W C V B s l) (h : ∀ o1 z, SR o1 S hs hw ha hc W C V B s (roundL s l) → KI o o1 (fun k => k = ha) → Q (.inl (some (.int z))) M o1) : dp_run X (d + 4 + 1) 67 [.ref S] n M o Q := by
  apply k_run
  intro K hK
  rw [mL_67]
  show K 0 [some (.ref S), none, none, none, none, none] [] n 0 0 M o
  have hA16 := hW.1
  have hC6 := hW.2.1
  refine k_iconst hK ti_67_0 kI_0 ?_
  refine k_istore_n hK (L' := [some (.ref S), some (.int _), none, none, none, none]) ti_67_1 rfl ?_
  refine k_aload_n hK ti_67_2 rfl ?_
  refine n_get hK (.ref hc) ti_67_3 ow_67 fd_5_23 hR.ob rfl ?_
  refine k_astore_n hK (L' := [some (.ref S), some (.int _), some (.ref hc), none, none, none]) ti_67_6 rfl ?_
  refine k_aload_n hK ti_67_7 rfl ?_
  refine n_alenR hK ti_67_8 hR.rc ?_
  refine k_istore_n hK (L' := [some (.ref S), some (.int _), some (.ref hc), some (.int _), none, none]) ti_67_9 rfl ?_
  refine k_iconst hK ti_67_10 kI_0 ?_
  refine k_istore hK (L' := [some (.ref S), some (.int _), some (.ref hc), some (.int _), some (.int _), none]) ti_67_11 rfl ?_
  have loop : ∀ (f i : Nat) (v : Option Value) (z : Int32) (o1 : dp_O), i ≤ (g_nC s) → (g_nC s) - i < f → (SR o1 S hs hw ha hc W C V B s (tw s l (2 * i))) → (KI o o1 (fun k => k = ha)) → K 13 [some (.ref S), some (.int z), some (.ref hc), some (.int (nI (g_nC s))), some (.int (nI i)), v] [] n (68 * i) (1352 * i) M o1 := by
    intro f
    induction f with
    | zero => intro i v z o1 h1 h2; omega
    | succ f ih =>
      intro i v z o1 h1 h2 hR hKI
      refine k_iload hK ti_67_13 rfl ?_
      refine k_iload_n hK ti_67_15 rfl ?_
      refine kn_ge hK (by omega) (by omega) ti_67_16 jt_16_49 (fun c_16 => ?_) (fun c_16 => ?_)
      · refine k_aload_n hK ti_67_19 rfl ?_
        refine k_iload hK ti_67_20 rfl ?_
        refine n_aald hK i ti_67_22 hR.rc (by omega) rfl (by omega) ?_
        refine k_astore hK (L' := [some (.ref S), some (.int _), some (.ref hc), some (.int _), some (.int _), some (.ref (C i))]) ti_67_23 rfl ?_
        refine k_iload_n hK ti_67_25 rfl ?_
        refine k_aload_n hK ti_67_26 rfl ?_
        refine k_aload hK ti_67_27 rfl ?_
        refine k_callVd hK (as := [.ref (C i)]) (st' := [.int _]) ti_67_29 ow_67 iv_5_76 mc_67 ms_67 rfl rfl (by omega) (Nat.le_of_ble_eq_true rfl) (Nat.le_of_ble_eq_true rfl) (by omega) (by omega) hR.ob ?_
        refine sp_X5_send (by omega) i hW hR (by omega) (fun o_29 hR1 hK1 => ?_)
        have hR2 : SR o_29 S hs hw ha hc W C V B s (tw s l (2 * i + 1)) := by rw [tw, show 2 * i / 2 = i by omega]; exact hR1
        have hKI2 := hKI.trans (hK1.weak (e' := fun k => k = ha) (fun _ z => z.elim))
        refine k_if_ge hK ti_67_32 jt_32_7 (fun c_32 => ?_) (fun c_32 => ?_)
        · refine k_iconst hK ti_67_35 kI_0 ?_
          refine k_goto hK ti_67_36 jt_36_4 ?_
          refine k_iadd hK ti_67_40 rfl ?_
          refine k_istore_n hK (L' := [some (.ref S), some (.int _), some (.ref hc), some (.int _), some (.int _), some (.ref (C i))]) ti_67_41 rfl ?_
          refine k_iload_n hK ti_67_42 rfl ?_
          refine k_aload_n hK ti_67_43 rfl ?_
          refine k_aload hK ti_67_44 rfl ?_
          refine k_callVd hK (as := [.ref (C i)]) (st' := [.int _]) ti_67_46 ow_67 iv_5_76 mc_67 ms_67 rfl rfl (by omega) (Nat.le_of_ble_eq_true rfl) (Nat.le_of_ble_eq_true rfl) (by omega) (by omega) hR2.ob ?_
          refine sp_X5_send (by omega) i hW hR2 (by omega) (fun o_46 hR1b hK1b => ?_)
          have hR3 : SR o_46 S hs hw ha hc W C V B s (tw s l (2 * (i + 1))) := by rw [show 2 * (i + 1) = 2 * i + 1 + 1 by omega, tw, show (2 * i + 1) / 2 = i by omega]; exact hR1b
          have hKI3 := hKI2.trans (hK1b.weak (e' := fun k => k = ha) (fun _ z => z.elim))
          refine k_if_ge hK ti_67_49 jt_49_7 (fun c_49 => ?_) (fun c_49 => ?_)
          · refine k_iconst hK ti_67_52 kI_0 ?_
            refine k_goto hK ti_67_53 jt_53_4 ?_
            refine k_iadd hK ti_67_57 rfl ?_
            refine k_istore_n hK (L' := [some (.ref S), some (.int _), some (.ref hc), some (.int _), some (.int _), some (.ref (C i))]) ti_67_58 rfl ?_
            refine k_iinc hK (L' := [some (.ref S), some (.int _), some (.ref hc), some (.int _), some (.int (nI (i + 1))), some (.ref (C i))]) ti_67_59 rfl (by rw [kI_1, nI_add]) rfl ?_
            refine k_goto hK ti_67_62 jt_62_m49 ?_
            refine k_wid hK (c' := 68 * (i + 1)) (q' := 1352 * (i + 1)) (by omega) (by omega) ?_
            exact ih (i + 1) _ _ _ (by omega) (by omega) hR3 hKI3
          · refine k_iconst hK ti_67_56 kI_1 ?_
            refine k_iadd hK ti_67_57 rfl ?_
            refine k_istore_n hK (L' := [some (.ref S), some (.int _), some (.ref hc), some (.int _), some (.int _), some (.ref (C i))]) ti_67_58 rfl ?_
            refine k_iinc hK (L' := [some (.ref S), some (.int _), some (.ref hc), some (.int _), some (.int (nI (i + 1))), some (.ref (C i))]) ti_67_59 rfl (by rw [kI_1, nI_add]) rfl ?_
            refine k_goto hK ti_67_62 jt_62_m49 ?_
            refine k_wid hK (c' := 68 * (i + 1)) (q' := 1352 * (i + 1)) (by omega) (by omega) ?_
            exact ih (i + 1) _ _ _ (by omega) (by omega) hR3 hKI3
        · refine k_iconst hK ti_67_39 kI_1 ?_
          refine k_iadd hK ti_67_40 rfl ?_
          refine k_istore_n hK (L' := [some (.ref S), some (.int _), some (.ref hc), some (.int _), some (.int _), some (.ref (C i))]) ti_67_41 rfl ?_
          refine k_iload_n hK ti_67_42 rfl ?_
          refine k_aload_n hK ti_67_43 rfl ?_
          refine k_aload hK ti_67_44 rfl ?_
          refine k_callVd hK (as := [.ref (C i)]) (st' := [.int _]) ti_67_46 ow_67 iv_5_76 mc_67 ms_67 rfl rfl (by omega) (Nat.le_of_ble_eq_true rfl) (Nat.le_of_ble_eq_true rfl) (by omega) (by omega) hR2.ob ?_
          refine sp_X5_send (by omega) i hW hR2 (by omega) (fun o_46 hR1b hK1b => ?_)
          have hR3 : SR o_46 S hs hw ha hc W C V B s (tw s l (2 * (i + 1))) := by rw [show 2 * (i + 1) = 2 * i + 1 + 1 by omega, tw, show (2 * i + 1) / 2 = i by omega]; exact hR1b
          have hKI3 := hKI2.trans (hK1b.weak (e' := fun k => k = ha) (fun _ z => z.elim))
          refine k_if_ge hK ti_67_49 jt_49_7 (fun c_49 => ?_) (fun c_49 => ?_)
          · refine k_iconst hK ti_67_52 kI_0 ?_
            refine k_goto hK ti_67_53 jt_53_4 ?_
            refine k_iadd hK ti_67_57 rfl ?_
            refine k_istore_n hK (L' := [some (.ref S), some (.int _), some (.ref hc), some (.int _), some (.int _), some (.ref (C i))]) ti_67_58 rfl ?_
            refine k_iinc hK (L' := [some (.ref S), some (.int _), some (.ref hc), some (.int _), some (.int (nI (i + 1))), some (.ref (C i))]) ti_67_59 rfl (by rw [kI_1, nI_add]) rfl ?_
            refine k_goto hK ti_67_62 jt_62_m49 ?_
            refine k_wid hK (c' := 68 * (i + 1)) (q' := 1352 * (i + 1)) (by omega) (by omega) ?_
            exact ih (i + 1) _ _ _ (by omega) (by omega) hR3 hKI3
          · refine k_iconst hK ti_67_56 kI_1 ?_
            refine k_iadd hK ti_67_57 rfl ?_
            refine k_istore_n hK (L' := [some (.ref S), some (.int _), some (.ref hc), some (.int _), some (.int _), some (.ref (C i))]) ti_67_58 rfl ?_
            refine k_iinc hK (L' := [some (.ref S), some (.int _), some (.ref hc), some (.int _), some (.int (nI (i + 1))), some (.ref (C i))]) ti_67_59 rfl (by rw [kI_1, nI_add]) rfl ?_
            refine k_goto hK ti_67_62 jt_62_m49 ?_
            refine k_wid hK (c' := 68 * (i + 1)) (q' := 1352 * (i + 1)) (by omega) (by omega) ?_
            exact ih (i + 1) _ _ _ (by omega) (by omega) hR3 hKI3
      · obtain rfl : i = g_nC s := by omega
        refine k_iconst hK ti_67_65 kI_0 ?_
        refine k_istore_n hK (L' := [some (.ref S), some (.int _), some (.int _), some (.int _), some (.int _), v]) ti_67_66 rfl ?_
        have loopb : ∀ (fb j : Nat) (v : Option Value) (o1 : dp_O), j ≤ (g_nA s) → (g_nA s) - j < fb → (SR o1 S hs hw ha hc W C V B s (oldp (tw s l (2 * g_nC s)) j)) → (KI o o1 (fun k => k = ha)) → K 67 [some (.ref S), some (.int z), some (.int (nI j)), some (.int (nI (g_nC s))), some (.int (nI ((g_nC s)))), v] [] n (68 * g_nC s) (1352 * g_nC s) M o1 := by
          intro fb
          induction fb with
          | zero => intro j v o1 h1b h2b; omega
          | succ fb ihb =>
            intro j v o1 h1b h2b hR hKI
            refine k_iload_n hK ti_67_67 rfl ?_
            refine k_aload_n hK ti_67_68 rfl ?_
            refine n_get hK (.ref hw) ti_67_69 ow_67 fd_5_14 hR.ob rfl ?_
            refine n_alenR hK ti_67_72 hR.rw ?_
            refine kn_ge hK (by omega) (by omega) ti_67_73 jt_73_19 (fun c_73 => ?_) (fun c_73 => ?_)
            · refine k_aload_n hK ti_67_76 rfl ?_
              refine n_get hK (.ref ha) ti_67_77 ow_67 fd_5_18 hR.ob rfl ?_
              refine k_iload_n hK ti_67_80 rfl ?_
              refine k_dup2 hK ti_67_81 rfl rfl ?_
              refine n_iald hK ((l_age (tw s l (2 * g_nC s)) j)) j ti_67_82 hR.age (by omega) rfl (by omega) SR.oat ?_
              refine k_iconst hK ti_67_83 kI_1 ?_
              refine k_iadd hK (z := (l_age (tw s l (2 * g_nC s)) j + nI 1)) ti_67_84 rfl ?_
              refine n_iast hK j ti_67_85 hR.age (by omega) rfl (by omega) (fun o_85 w_85 a_85 => ?_)
              refine k_iinc hK (L' := [some (.ref S), some (.int _), some (.int (nI (j + 1))), some (.int _), some (.int _), v]) ti_67_86 rfl (by rw [kI_1, nI_add]) rfl ?_
              refine k_goto hK ti_67_89 jt_89_m22 ?_
              exact ihb (j + 1) _ _ (by omega) (by omega) (hR.old (by omega) w_85 a_85) (hKI.trans w_85.kiI)
            · obtain rfl : j = g_nA s := by omega
              refine k_aload_n hK ti_67_92 rfl ?_
              refine k_dup hK ti_67_93 rfl ?_
              refine n_get hK (.int (l_rnd ((oldp (tw s l (2 * g_nC s)) (g_nA s))))) ti_67_94 ow_67 fd_5_36 hR.ob rfl ?_
              refine k_iconst hK ti_67_97 kI_1 ?_
              refine k_iadd hK (z := (l_rnd (tw s l (2 * g_nC s)) + nI 1)) ti_67_98 rfl ?_
              refine n_put hK [.ref hs, .ref hw, .ref ha, .ref hc, .int (l_rnd (tw s l (2 * g_nC s)) + nI 1)] ti_67_99 ow_67 fd_5_36 (Or.inr rfl) hR.ob (Nat.le_of_ble_eq_true rfl) rfl rfl (fun o_99 w_99 a_99 => ?_)
              have hR5 := hR.rnd w_99 a_99 rfl
              refine k_iload_n hK ti_67_102 rfl ?_
              refine k_ireturn hK ti_67_103 rk_67 mc_67 ms_67 (by omega) (by omega) ?_
              exact h o_99 _ hR5 (hKI.trans (w_99.kiO hR.ob))
        exact loopb ((g_nA s) - 0 + 1) 0 _ _ (by omega) (by omega) (by rw [oldp_0]; exact hR) hKI
  refine k_wid hK (c' := 68 * 0) (q' := 1352 * 0) (by omega) (by omega) ?_
  exact loop ((g_nC s) - 0 + 1) 0 _ _ _ (by omega) (by omega) hR (KI.refl _ _)
