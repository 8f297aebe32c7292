/-! The class: recount, ledgers played, a stem tried. (written by wip/whole/cls5.py) -/
set_option maxRecDepth 100000 in
set_option maxHeartbeats 4000000 in
theorem sp_X2_recount {X : dp_X} {d n : Nat} {M : dp_M} {o : dp_O} {Q : dp_Q} (h65 : 65 ≤ n) {s : GSt} (hC : CG0 M s) (h : ∀ M', Fr wT M M' → CG M' s → Q (.inl none) M' o) : dp_run X (d + 2 + 1) 8 [.ref 1] n M o Q := by
  apply k_run
  intro K hK
  rw [mL_8]
  show K 0 [some (.ref 1), none] [] n 0 0 M o
  have hA16 := hC.1.1
  have hC0 := hC
  refine k_aload_n hK ti_8_0 rfl ?_
  refine k_get hK ti_8_1 ow_8 fd_2_26 (by omega) rfl rfl ?_
  refine k_iconst hK ti_8_4 kI_0 ?_
  refine k_callS hK (as := [.ref 10, .int _]) (st' := []) ti_8_5 ow_8 iv_2_29 mc_8 ms_8 rfl rfl (by omega) (Nat.le_of_ble_eq_true rfl) (Nat.le_of_ble_eq_true rfl) (Nat.le_of_ble_eq_true rfl) (Nat.le_of_ble_eq_true rfl) ?_
  refine sp_J7_fill (by omega) 10 (nI 0) rfl (by omega) (by rw [dpl_10]; decide) (fun M1 hf1 hf2 => ?_)
  rw [dpl_10] at hf1
  refine k_iconst hK ti_8_8 kI_0 ?_
  refine k_istore_n hK (L' := [some (.ref 1), some (.int _)]) ti_8_9 rfl ?_
  suffices hx : ∀ (M' : dp_M), (Fr wT M M') → (CG0 M' s) → (∀ a x, a < (g_nA s) → x < 20 → M' (43 + a) x = nI (tm s a x)) → (∀ x, x < 20 → M' 10 x = nI (hvi s x (g_nA s))) → K 29 [some (.ref 1), some (.int (nI ((g_nA s))))] [] n 0 0 M' o by
    have loop : ∀ (f i : Nat) (M' : dp_M), i ≤ (g_nA s) → (g_nA s) - i < f → (Fr wT M M') → (CG0 M' s) → (∀ a x, a < i → x < 20 → M' (43 + a) x = nI (tm s a x)) → (∀ x, x < 20 → M' 10 x = nI (hvi s x i)) → K 10 [some (.ref 1), some (.int (nI i))] [] n 0 0 M' o := by
      intro f
      induction f with
      | zero => intro i M' h1 h2; omega
      | succ f ih =>
        intro i M' h1 h2 hF hC h3 h4
        refine k_iload_n hK ti_8_10 rfl ?_
        refine k_aload_n hK ti_8_11 rfl ?_
        refine k_geti hK (nI (g_nA s)) ti_8_12 ow_8 fd_2_35 (by omega) rfl rfl hC.nA ?_
        refine kn_ge hK (by omega) (by omega) ti_8_15 jt_15_14 (fun c_15 => ?_) (fun c_15 => ?_)
        · refine k_aload_n hK ti_8_18 rfl ?_
          refine k_iload_n hK ti_8_19 rfl ?_
          refine k_callV hK (as := [.int _]) (st' := []) ti_8_20 ow_8 iv_2_39 mc_8 ms_8 rfl rfl (by omega) (Nat.le_of_ble_eq_true rfl) (Nat.le_of_ble_eq_true rfl) (Nat.le_of_ble_eq_true rfl) (Nat.le_of_ble_eq_true rfl) (by omega) rfl ?_
          refine sp_X2_recountArticle (by omega) i hC (by omega) h4 (fun M2 h6 h7 h8 => ?_)
          have hF2 : Fr wT M' M2 := fun b k e => h8 b k (fun z => e (Or.inr (by omega))) (fun z => e (Or.inl z))
          refine k_iinc hK (L' := [some (.ref 1), some (.int (nI (i + 1)))]) ti_8_23 rfl (by rw [kI_1, nI_add]) rfl ?_
          refine k_goto hK ti_8_26 jt_26_m16 ?_
          exact ih (i + 1) _ (by omega) (by omega) (hF.trans hF2) (hC.fr hF2 (fun a x h1 h2 hx => h8 _ _ (by omega) (by omega))) (fun a x ha hx => by by_cases e : a = i; (subst e; exact h6 x hx); rw [h8 (43 + a) x (by omega) (by omega)]; exact h3 a x (by omega) hx) h7
        · obtain rfl : i = (g_nA s) := by omega
          exact hx _ hF hC h3 h4
    exact loop ((g_nA s) - 0 + 1) 0 _ (by omega) (by omega) (fun b k e => hf2 b k (fun z => e (Or.inl z))) (hC0.fr (fun b k e => hf2 b k (fun z => e (Or.inl z))) (fun a x _ _ _ => hf2 _ _ (by omega))) (fun a x z _ => absurd z (by omega)) hf1
  intro M' hF hC h3 h4
  refine k_return hK ti_8_29 rk_8 mc_8 ms_8 (Nat.le_of_ble_eq_true rfl) (Nat.le_of_ble_eq_true rfl) ?_
  exact h _ hF (hC.full (fun a x ha hx => h3 a x ha hx) (fun x hx => h4 x hx))

set_option maxRecDepth 100000 in
set_option maxHeartbeats 4000000 in
theorem sp_X0_book_n {X : dp_X} {d n : Nat} {M : dp_M} {o : dp_O} {Q : dp_Q} (h65 : 65 ≤ n) {l : LSt} (c a : Nat) (p : Int32) (hN : CLn M l) (hc : c < 6) (ha : a < 16) (h : ∀ M', Fr wL_n M M' → CLn M' (book l c a p) → Q (.inl none) M' o) : dp_run X (d + 0 + 1) 2 [.ref 3, .int (nI c), .int (nI a), .int p] n M o Q := by
  apply k_run
  intro K hK
  rw [mL_2]
  show K 0 [some (.ref 3), some (.int (nI c)), some (.int (nI a)), some (.int p)] [] n 0 0 M o
  refine k_aload_n hK ti_2_0 rfl ?_
  refine k_get hK ti_2_1 ow_2 fd_0_15 (by omega) rfl rfl ?_
  refine k_iload_n hK ti_2_4 rfl ?_
  refine k_dup2 hK ti_2_5 rfl rfl ?_
  refine k_ialdv (v := (l_coin l c)) hK c ti_2_6 rfl (by omega) (by omega) rfl (by rw [dpl_15]; omega) (hN.2.2.1 c (by omega)).1 ?_
  refine k_iload_n hK ti_2_7 rfl ?_
  refine k_isub hK ti_2_8 rfl ?_
  refine k_iast hK c ti_2_9 rfl (by omega) rfl (by rw [dpl_15]; omega) ?_
  refine k_aload_n hK ti_2_10 rfl ?_
  refine k_get hK ti_2_11 ow_2 fd_0_18 (by omega) rfl rfl ?_
  refine k_iload_n hK ti_2_14 rfl ?_
  refine k_dup2 hK ti_2_15 rfl rfl ?_
  refine k_ialdv (v := (l_paid l c)) hK c ti_2_16 rfl (by omega) (by omega) rfl (by rw [dpl_16]; omega) ((dp_up_h (by decide)).trans (hN.2.2.1 c hc).2.1) ?_
  refine k_iload_n hK ti_2_17 rfl ?_
  refine k_iadd hK ti_2_18 rfl ?_
  refine k_iast hK c ti_2_19 rfl (by omega) rfl (by rw [dpl_16]; omega) ?_
  refine k_aload_n hK ti_2_20 rfl ?_
  refine k_get hK ti_2_21 ow_2 fd_0_21 (by omega) rfl rfl ?_
  refine k_iload_n hK ti_2_24 rfl ?_
  refine k_dup2 hK ti_2_25 rfl rfl ?_
  refine k_ialdv (v := (nI (l_sent l c))) hK c ti_2_26 rfl (by omega) (by omega) rfl (by rw [dpl_17]; omega) ((dp_up_h (by decide)).trans ((dp_up_h (by decide)).trans (hN.2.2.1 c hc).2.2)) ?_
  refine k_iconst hK ti_2_27 kI_1 ?_
  refine k_iload_n hK ti_2_28 rfl ?_
  refine k_ishl hK (z := (nI (2 ^ a))) ti_2_29 (nI_shl1 (by omega)) ?_
  refine k_ior hK (z := (nI (l_sent l c ||| 2 ^ a))) ti_2_30 nI_or ?_
  refine k_iast hK c ti_2_31 rfl (by omega) rfl (by rw [dpl_17]; omega) ?_
  refine k_return hK ti_2_32 rk_2 mc_2 ms_2 (Nat.le_of_ble_eq_true rfl) (Nat.le_of_ble_eq_true rfl) ?_
  exact h _ (Fr.up (Fr.up (Fr.up (Fr.refl _ _) (Or.inl (by omega))) (Or.inl (by omega))) (Or.inl (by omega))) (CL_n_book hN hc ha p)

set_option maxRecDepth 100000 in
set_option maxHeartbeats 4000000 in
theorem sp_X0_growOlder_n {X : dp_X} {d n : Nat} {M : dp_M} {o : dp_O} {Q : dp_Q} (h65 : 65 ≤ n) {l : LSt} (k : Nat) (hN : CLn M l) (hk : k ≤ 16) (h : ∀ M', Fr wL_n M M' → CLn M' (rnd1 (oldp l k)) → Q (.inl none) M' o) : dp_run X (d + 0 + 1) 3 [.ref 3, .int (nI k)] n M o Q := by
  apply k_run
  intro K hK
  rw [mL_3]
  show K 0 [some (.ref 3), some (.int (nI k)), none] [] n 0 0 M o
  have hl0 := hN
  refine k_iconst hK ti_3_0 kI_0 ?_
  refine k_istore_n hK (L' := [some (.ref 3), some (.int _), some (.int _)]) ti_3_1 rfl ?_
  suffices hx : ∀ (M' : dp_M), (Fr wL_n M M') → (CLn M' (oldp l k)) → K 23 [some (.ref 3), some (.int (nI k)), some (.int (nI k))] [] n 0 0 M' o by
    have loop : ∀ (f i : Nat) (M' : dp_M), i ≤ k → k - i < f → (Fr wL_n M M') → (CLn M' (oldp l i)) → K 2 [some (.ref 3), some (.int (nI k)), some (.int (nI i))] [] n 0 0 M' o := by
      intro f
      induction f with
      | zero => intro i M' h1 h2; omega
      | succ f ih =>
        intro i M' h1 h2 hF hN
        refine k_iload_n hK ti_3_2 rfl ?_
        refine k_iload_n hK ti_3_3 rfl ?_
        refine kn_ge hK (by omega) (by omega) ti_3_4 jt_4_19 (fun c_4 => ?_) (fun c_4 => ?_)
        · refine k_aload_n hK ti_3_7 rfl ?_
          refine k_get hK ti_3_8 ow_3 fd_0_9 (by omega) rfl rfl ?_
          refine k_iload_n hK ti_3_11 rfl ?_
          refine k_dup2 hK ti_3_12 rfl rfl ?_
          refine k_ialdv (v := (l_age l i)) hK i ti_3_13 rfl (by omega) (by omega) rfl (by rw [dpl_14]; omega) (CL_n_at hN (by omega)) ?_
          refine k_iconst hK ti_3_14 kI_1 ?_
          refine k_iadd hK ti_3_15 rfl ?_
          refine k_iast hK i ti_3_16 rfl (by omega) rfl (by rw [dpl_14]; omega) ?_
          refine k_iinc hK (L' := [some (.ref 3), some (.int _), some (.int (nI (i + 1)))]) ti_3_17 rfl (by rw [kI_1, nI_add]) rfl ?_
          refine k_goto hK ti_3_20 jt_20_m18 ?_
          exact ih (i + 1) _ (by omega) (by omega) (hF.up (Or.inl (by omega))) (CL_n_age hN)
        · obtain rfl : i = k := by omega
          exact hx _ hF hN
    exact loop (k - 0 + 1) 0 _ (by omega) (by omega) (Fr.refl _ _) (by rw [oldp_0]; exact hN)
  intro M' hF hN
  refine k_aload_n hK ti_3_23 rfl ?_
  refine k_dup hK ti_3_24 rfl ?_
  refine k_geti hK (l_rnd l) ti_3_25 ow_3 fd_0_30 (by omega) rfl rfl hN.2.2.2 ?_
  refine k_iconst hK ti_3_28 kI_1 ?_
  refine k_iadd hK ti_3_29 rfl ?_
  refine k_put hK ti_3_30 ow_3 fd_0_30 (by omega) rfl rfl ?_
  refine k_return hK ti_3_33 rk_3 mc_3 ms_3 (Nat.le_of_ble_eq_true rfl) (Nat.le_of_ble_eq_true rfl) ?_
  exact h _ (hF.up (Or.inr (by omega))) (CL_n_rnd hN)

set_option maxRecDepth 100000 in
set_option maxHeartbeats 4000000 in
theorem sp_X3_sendTo_n {X : dp_X} {d n : Nat} {M : dp_M} {o : dp_O} {Q : dp_Q} (h65 : 65 ≤ n) {s : GSt} {l : LSt} (c : Nat) (hC : CG M s) (hN : CLn M l) (hc : c < g_nC s) (h : ∀ M', Fr wL_n M M' → CLn M' (sendL s l c) → Q (.inl (some (.int (oI (snd1 s l c))))) M' o) : dp_run X (d + 4 + 1) 55 [.ref 0, .ref 3, .int (nI c)] n M o Q := by
  apply k_run
  intro K hK
  rw [mL_55]
  show K 0 [some (.ref 0), some (.ref 3), some (.int (nI c)), none, none] [] n 0 0 M o
  have hA16 := hC.w.1
  have hC6 := hC.w.2.1
  refine k_aload_n hK ti_55_0 rfl ?_
  refine k_aload_n hK ti_55_1 rfl ?_
  refine k_iload_n hK ti_55_2 rfl ?_
  refine k_callV hK (as := [.ref 3, .int _]) (st' := []) ti_55_3 ow_55 iv_3_268 mc_55 ms_55 rfl rfl (by omega) (Nat.le_of_ble_eq_true rfl) (Nat.le_of_ble_eq_true rfl) (Nat.le_of_ble_eq_true rfl) (Nat.le_of_ble_eq_true rfl) (by omega) rfl ?_
  refine sp_X3_bestFit_n (by omega) c hC hN (by omega) ?_
  rcases hfa : fA s l c 0 with _ | a
  · have e : snd1 s l c = none := by simp only [snd1, hfa]
    refine k_istore_n hK (L' := [some (.ref 0), some (.ref 3), some (.int _), some (.int _), none]) ti_55_6 rfl ?_
    refine k_iload_n hK ti_55_7 rfl ?_
    refine k_iconst hK ti_55_8 kI_m1 ?_
    refine k_icmp_ne hK ti_55_9 jt_9_5 (fun c_9 => ?_) (fun c_9 => ?_)
    · refine k_iconst hK ti_55_12 kI_m1 ?_
      refine k_ireturn hK ti_55_13 rk_55 mc_55 ms_55 (Nat.le_of_ble_eq_true rfl) (Nat.le_of_ble_eq_true rfl) ?_
      have h := h M (Fr.refl _ _) (by rw [sendL_none e]; exact hN)
      rw [e] at h
      exact h
    · exact absurd rfl c_9
  · have ha := fA_lt hfa
    refine k_istore_n hK (L' := [some (.ref 0), some (.ref 3), some (.int _), some (.int _), none]) ti_55_6 rfl ?_
    refine k_iload_n hK ti_55_7 rfl ?_
    refine k_iconst hK ti_55_8 kI_m1 ?_
    refine k_icmp_ne hK ti_55_9 jt_9_5 (fun c_9 => ?_) (fun c_9 => ?_)
    · exact absurd c_9 (nI_nm1 (by omega))
    · refine k_aload_n hK ti_55_14 rfl ?_
      refine k_aload_n hK ti_55_15 rfl ?_
      refine k_iload_n hK ti_55_16 rfl ?_
      refine k_iload_n hK ti_55_17 rfl ?_
      refine k_callV hK (as := [.ref 3, .int _, .int _]) (st' := []) ti_55_18 ow_55 iv_3_271 mc_55 ms_55 rfl rfl (by omega) (Nat.le_of_ble_eq_true rfl) (Nat.le_of_ble_eq_true rfl) (Nat.le_of_ble_eq_true rfl) (Nat.le_of_ble_eq_true rfl) (by omega) rfl ?_
      refine sp_X3_priceFor_n (by omega) c a hC hN (by omega) (by omega) ?_
      refine k_istore hK (L' := [some (.ref 0), some (.ref 3), some (.int _), some (.int _), some (.int _)]) ti_55_21 rfl ?_
      refine k_aload_n hK ti_55_23 rfl ?_
      refine k_get hK ti_55_24 ow_55 fd_3_91 (by omega) rfl rfl ?_
      refine k_iload_n hK ti_55_27 rfl ?_
      refine k_ialdv (v := (l_coin l c)) hK c ti_55_28 rfl (by omega) (by omega) rfl (by rw [dpl_15]; omega) (hN.2.2.1 c (by omega)).1 ?_
      refine k_iload hK ti_55_29 rfl ?_
      refine k_icmp_ge hK ti_55_31 jt_31_5 (fun c_31 => ?_) (fun c_31 => ?_)
      · have e : snd1 s l c = none := by simp only [snd1, hfa, if_pos c_31]
        refine k_iconst hK ti_55_34 kI_m1 ?_
        refine k_ireturn hK ti_55_35 rk_55 mc_55 ms_55 (Nat.le_of_ble_eq_true rfl) (Nat.le_of_ble_eq_true rfl) ?_
        have h := h M (Fr.refl _ _) (by rw [sendL_none e]; exact hN)
        rw [e] at h
        exact h
      · have e : snd1 s l c = some a := by simp only [snd1, hfa, if_neg c_31]
        refine k_aload_n hK ti_55_36 rfl ?_
        refine k_iload_n hK ti_55_37 rfl ?_
        refine k_iload_n hK ti_55_38 rfl ?_
        refine k_iload hK ti_55_39 rfl ?_
        refine k_callV hK (as := [.int _, .int _, .int _]) (st' := []) ti_55_41 ow_55 iv_3_274 mc_55 ms_55 rfl rfl (by omega) (Nat.le_of_ble_eq_true rfl) (Nat.le_of_ble_eq_true rfl) (Nat.le_of_ble_eq_true rfl) (Nat.le_of_ble_eq_true rfl) (by omega) rfl ?_
        refine sp_X0_book_n (by omega) c a (prc s l c a) hN (by omega) (by omega) (fun M2 hF hL2 => ?_)
        refine k_iload_n hK ti_55_44 rfl ?_
        refine k_ireturn hK ti_55_45 rk_55 mc_55 ms_55 (Nat.le_of_ble_eq_true rfl) (Nat.le_of_ble_eq_true rfl) ?_
        rw [← sendL_some e] at hL2
        have h := h _ hF hL2
        rw [e] at h
        exact h

set_option maxRecDepth 100000 in
set_option maxHeartbeats 4000000 in
theorem sp_X3_playRounds_n {X : dp_X} {d n : Nat} {M : dp_M} {o : dp_O} {Q : dp_Q} (h65 : 65 ≤ n) {s : GSt} {l : LSt} (k : Nat) (hC : CG M s) (hN : CLn M l) (hk : k ≤ 30) (h : ∀ M', Fr wL_n M M' → CLn M' (roundsL s l k) → Q (.inl none) M' o) : dp_run X (d + 5 + 1) 56 [.ref 0, .ref 3, .int (nI k)] n M o Q := by
  apply k_run
  intro K hK
  rw [mL_56]
  show K 0 [some (.ref 0), some (.ref 3), some (.int (nI k)), none, none] [] n 0 0 M o
  have hA16 := hC.w.1
  have hC6 := hC.w.2.1
  refine k_iconst hK ti_56_0 kI_0 ?_
  refine k_istore_n hK (L' := [some (.ref 0), some (.ref 3), some (.int _), some (.int _), none]) ti_56_1 rfl ?_
  suffices hx : ∀ (u : Option Value) (M' : dp_M), (Fr wL_n M M') → (CG M' s) → (CLn M' (roundsL s l k)) → K 61 [some (.ref 0), some (.ref 3), some (.int (nI k)), some (.int (nI k)), u] [] n 0 0 M' o by
    have loop : ∀ (f i : Nat) (u : Option Value) (M' : dp_M), i ≤ k → k - i < f → (Fr wL_n M M') → (CG M' s) → (CLn M' (roundsL s l i)) → K 2 [some (.ref 0), some (.ref 3), some (.int (nI k)), some (.int (nI i)), u] [] n 0 0 M' o := by
      intro f
      induction f with
      | zero => intro i u M' h1 h2; omega
      | succ f ih =>
        intro i u M' h1 h2 hF hC hN
        refine k_iload_n hK ti_56_2 rfl ?_
        refine k_iload_n hK ti_56_3 rfl ?_
        refine kn_ge hK (by omega) (by omega) ti_56_4 jt_4_57 (fun c_4 => ?_) (fun c_4 => ?_)
        · refine k_iconst hK ti_56_7 kI_0 ?_
          refine k_istore hK (L' := [some (.ref 0), some (.ref 3), some (.int _), some (.int _), some (.int _)]) ti_56_8 rfl ?_
          suffices hx2 : ∀ (M' : dp_M), (Fr wL_n M M') → (CG M' s) → (CLn M' (tw s (roundsL s l i) (2 * (g_nC s)))) → K 44 [some (.ref 0), some (.ref 3), some (.int (nI k)), some (.int (nI i)), some (.int (nI ((g_nC s))))] [] n 0 0 M' o by
            have loop2 : ∀ (f2 j : Nat) (M' : dp_M), j ≤ (g_nC s) → (g_nC s) - j < f2 → (Fr wL_n M M') → (CG M' s) → (CLn M' (tw s (roundsL s l i) (2 * j))) → K 10 [some (.ref 0), some (.ref 3), some (.int (nI k)), some (.int (nI i)), some (.int (nI j))] [] n 0 0 M' o := by
              intro f2
              induction f2 with
              | zero => intro j M' h12 h22; omega
              | succ f2 ih2 =>
                intro j M' h12 h22 hF hC hN
                refine k_iload hK ti_56_10 rfl ?_
                refine k_aload_n hK ti_56_12 rfl ?_
                refine k_get hK ti_56_13 ow_56 fd_3_19 (by omega) rfl rfl ?_
                refine k_geti hK (nI (g_nC s)) ti_56_16 ow_56 fd_3_86 (by omega) rfl rfl hC.nC ?_
                refine kn_ge hK (by omega) (by omega) ti_56_19 jt_19_25 (fun c_19 => ?_) (fun c_19 => ?_)
                · refine k_aload_n hK ti_56_22 rfl ?_
                  refine k_aload_n hK ti_56_23 rfl ?_
                  refine k_iload hK ti_56_24 rfl ?_
                  refine k_callV hK (as := [.ref 3, .int _]) (st' := []) ti_56_26 ow_56 iv_3_125 mc_56 ms_56 rfl rfl (by omega) (Nat.le_of_ble_eq_true rfl) (Nat.le_of_ble_eq_true rfl) (Nat.le_of_ble_eq_true rfl) (Nat.le_of_ble_eq_true rfl) (by omega) rfl ?_
                  refine sp_X3_sendTo_n (by omega) j hC hN (by omega) (fun M2 hF2 hL2 => ?_)
                  have hC2 := hC.fr_n hF2
                  refine k_pop hK ti_56_29 rfl ?_
                  refine k_aload_n hK ti_56_30 rfl ?_
                  refine k_aload_n hK ti_56_31 rfl ?_
                  refine k_iload hK ti_56_32 rfl ?_
                  refine k_callV hK (as := [.ref 3, .int _]) (st' := []) ti_56_34 ow_56 iv_3_125 mc_56 ms_56 rfl rfl (by omega) (Nat.le_of_ble_eq_true rfl) (Nat.le_of_ble_eq_true rfl) (Nat.le_of_ble_eq_true rfl) (Nat.le_of_ble_eq_true rfl) (by omega) rfl ?_
                  refine sp_X3_sendTo_n (by omega) j hC2 hL2 (by omega) (fun M3 hF3 hL3 => ?_)
                  have hC3 := hC2.fr_n hF3
                  refine k_pop hK ti_56_37 rfl ?_
                  refine k_iinc hK (L' := [some (.ref 0), some (.ref 3), some (.int _), some (.int _), some (.int (nI (j + 1)))]) ti_56_38 rfl (by rw [kI_1, nI_add]) rfl ?_
                  refine k_goto hK ti_56_41 jt_41_m31 ?_
                  exact ih2 (j + 1) _ (by omega) (by omega) ((hF.trans hF2).trans hF3) hC3 (by rw [show 2 * (j + 1) = 2 * j + 1 + 1 by omega]; unfold tw; rw [show (2 * j + 1) / 2 = j by omega]; unfold tw; rw [show 2 * j / 2 = j by omega]; exact hL3)
                · obtain rfl : j = (g_nC s) := by omega
                  exact hx2 _ hF hC hN
            exact loop2 ((g_nC s) - 0 + 1) 0 _ (by omega) (by omega) hF hC hN
          intro M' hF hC hN
          refine k_aload_n hK ti_56_44 rfl ?_
          refine k_aload_n hK ti_56_45 rfl ?_
          refine k_get hK ti_56_46 ow_56 fd_3_10 (by omega) rfl rfl ?_
          refine k_geti hK (nI (g_nA s)) ti_56_49 ow_56 fd_3_50 (by omega) rfl rfl hC.nA ?_
          refine k_callV hK (as := [.int _]) (st' := []) ti_56_52 ow_56 iv_3_278 mc_56 ms_56 rfl rfl (by omega) (Nat.le_of_ble_eq_true rfl) (Nat.le_of_ble_eq_true rfl) (Nat.le_of_ble_eq_true rfl) (Nat.le_of_ble_eq_true rfl) (by omega) rfl ?_
          refine sp_X0_growOlder_n (by omega) (g_nA s) hN (by omega) (fun M5 hF5 hL5 => ?_)
          have hC5 := hC.fr_n hF5
          refine k_iinc hK (L' := [some (.ref 0), some (.ref 3), some (.int _), some (.int (nI (i + 1))), some (.int _)]) ti_56_55 rfl (by rw [kI_1, nI_add]) rfl ?_
          refine k_goto hK ti_56_58 jt_58_m56 ?_
          exact ih (i + 1) _ _ (by omega) (by omega) (hF.trans hF5) hC5 hL5
        · obtain rfl : i = k := by omega
          exact hx _ _ hF hC hN
    exact loop (k - 0 + 1) 0 _ _ (by omega) (by omega) (Fr.refl _ _) hC hN
  intro u M' hF hC hN
  refine k_return hK ti_56_61 rk_56 mc_56 ms_56 (Nat.le_of_ble_eq_true rfl) (Nat.le_of_ble_eq_true rfl) ?_
  exact h _ hF hN

set_option maxRecDepth 100000 in
set_option maxHeartbeats 4000000 in
theorem sp_X0_book_f {X : dp_X} {d n : Nat} {M : dp_M} {o : dp_O} {Q : dp_Q} (h65 : 65 ≤ n) {l : LSt} (c a : Nat) (p : Int32) (hT : CLf M l) (hc : c < 6) (ha : a < 16) (h : ∀ M', Fr wL_f M M' → CLf M' (book l c a p) → Q (.inl none) M' o) : dp_run X (d + 0 + 1) 2 [.ref 4, .int (nI c), .int (nI a), .int p] n M o Q := by
  apply k_run
  intro K hK
  rw [mL_2]
  show K 0 [some (.ref 4), some (.int (nI c)), some (.int (nI a)), some (.int p)] [] n 0 0 M o
  refine k_aload_n hK ti_2_0 rfl ?_
  refine k_get hK ti_2_1 ow_2 fd_0_15 (by omega) rfl rfl ?_
  refine k_iload_n hK ti_2_4 rfl ?_
  refine k_dup2 hK ti_2_5 rfl rfl ?_
  refine k_ialdv (v := (l_coin l c)) hK c ti_2_6 rfl (by omega) (by omega) rfl (by rw [dpl_19]; omega) (hT.2.2.1 c (by omega)).1 ?_
  refine k_iload_n hK ti_2_7 rfl ?_
  refine k_isub hK ti_2_8 rfl ?_
  refine k_iast hK c ti_2_9 rfl (by omega) rfl (by rw [dpl_19]; omega) ?_
  refine k_aload_n hK ti_2_10 rfl ?_
  refine k_get hK ti_2_11 ow_2 fd_0_18 (by omega) rfl rfl ?_
  refine k_iload_n hK ti_2_14 rfl ?_
  refine k_dup2 hK ti_2_15 rfl rfl ?_
  refine k_ialdv (v := (l_paid l c)) hK c ti_2_16 rfl (by omega) (by omega) rfl (by rw [dpl_20]; omega) ((dp_up_h (by decide)).trans (hT.2.2.1 c hc).2.1) ?_
  refine k_iload_n hK ti_2_17 rfl ?_
  refine k_iadd hK ti_2_18 rfl ?_
  refine k_iast hK c ti_2_19 rfl (by omega) rfl (by rw [dpl_20]; omega) ?_
  refine k_aload_n hK ti_2_20 rfl ?_
  refine k_get hK ti_2_21 ow_2 fd_0_21 (by omega) rfl rfl ?_
  refine k_iload_n hK ti_2_24 rfl ?_
  refine k_dup2 hK ti_2_25 rfl rfl ?_
  refine k_ialdv (v := (nI (l_sent l c))) hK c ti_2_26 rfl (by omega) (by omega) rfl (by rw [dpl_21]; omega) ((dp_up_h (by decide)).trans ((dp_up_h (by decide)).trans (hT.2.2.1 c hc).2.2)) ?_
  refine k_iconst hK ti_2_27 kI_1 ?_
  refine k_iload_n hK ti_2_28 rfl ?_
  refine k_ishl hK (z := (nI (2 ^ a))) ti_2_29 (nI_shl1 (by omega)) ?_
  refine k_ior hK (z := (nI (l_sent l c ||| 2 ^ a))) ti_2_30 nI_or ?_
  refine k_iast hK c ti_2_31 rfl (by omega) rfl (by rw [dpl_21]; omega) ?_
  refine k_return hK ti_2_32 rk_2 mc_2 ms_2 (Nat.le_of_ble_eq_true rfl) (Nat.le_of_ble_eq_true rfl) ?_
  exact h _ (Fr.up (Fr.up (Fr.up (Fr.refl _ _) (Or.inl (by omega))) (Or.inl (by omega))) (Or.inl (by omega))) (CL_f_book hT hc ha p)

set_option maxRecDepth 100000 in
set_option maxHeartbeats 4000000 in
theorem sp_X0_growOlder_f {X : dp_X} {d n : Nat} {M : dp_M} {o : dp_O} {Q : dp_Q} (h65 : 65 ≤ n) {l : LSt} (k : Nat) (hT : CLf M l) (hk : k ≤ 16) (h : ∀ M', Fr wL_f M M' → CLf M' (rnd1 (oldp l k)) → Q (.inl none) M' o) : dp_run X (d + 0 + 1) 3 [.ref 4, .int (nI k)] n M o Q := by
  apply k_run
  intro K hK
  rw [mL_3]
  show K 0 [some (.ref 4), some (.int (nI k)), none] [] n 0 0 M o
  have hl0 := hT
  refine k_iconst hK ti_3_0 kI_0 ?_
  refine k_istore_n hK (L' := [some (.ref 4), some (.int _), some (.int _)]) ti_3_1 rfl ?_
  suffices hx : ∀ (M' : dp_M), (Fr wL_f M M') → (CLf M' (oldp l k)) → K 23 [some (.ref 4), some (.int (nI k)), some (.int (nI k))] [] n 0 0 M' o by
    have loop : ∀ (f i : Nat) (M' : dp_M), i ≤ k → k - i < f → (Fr wL_f M M') → (CLf M' (oldp l i)) → K 2 [some (.ref 4), some (.int (nI k)), some (.int (nI i))] [] n 0 0 M' o := by
      intro f
      induction f with
      | zero => intro i M' h1 h2; omega
      | succ f ih =>
        intro i M' h1 h2 hF hT
        refine k_iload_n hK ti_3_2 rfl ?_
        refine k_iload_n hK ti_3_3 rfl ?_
        refine kn_ge hK (by omega) (by omega) ti_3_4 jt_4_19 (fun c_4 => ?_) (fun c_4 => ?_)
        · refine k_aload_n hK ti_3_7 rfl ?_
          refine k_get hK ti_3_8 ow_3 fd_0_9 (by omega) rfl rfl ?_
          refine k_iload_n hK ti_3_11 rfl ?_
          refine k_dup2 hK ti_3_12 rfl rfl ?_
          refine k_ialdv (v := (l_age l i)) hK i ti_3_13 rfl (by omega) (by omega) rfl (by rw [dpl_18]; omega) (CL_f_at hT (by omega)) ?_
          refine k_iconst hK ti_3_14 kI_1 ?_
          refine k_iadd hK ti_3_15 rfl ?_
          refine k_iast hK i ti_3_16 rfl (by omega) rfl (by rw [dpl_18]; omega) ?_
          refine k_iinc hK (L' := [some (.ref 4), some (.int _), some (.int (nI (i + 1)))]) ti_3_17 rfl (by rw [kI_1, nI_add]) rfl ?_
          refine k_goto hK ti_3_20 jt_20_m18 ?_
          exact ih (i + 1) _ (by omega) (by omega) (hF.up (Or.inl (by omega))) (CL_f_age hT)
        · obtain rfl : i = k := by omega
          exact hx _ hF hT
    exact loop (k - 0 + 1) 0 _ (by omega) (by omega) (Fr.refl _ _) (by rw [oldp_0]; exact hT)
  intro M' hF hT
  refine k_aload_n hK ti_3_23 rfl ?_
  refine k_dup hK ti_3_24 rfl ?_
  refine k_geti hK (l_rnd l) ti_3_25 ow_3 fd_0_30 (by omega) rfl rfl hT.2.2.2 ?_
  refine k_iconst hK ti_3_28 kI_1 ?_
  refine k_iadd hK ti_3_29 rfl ?_
  refine k_put hK ti_3_30 ow_3 fd_0_30 (by omega) rfl rfl ?_
  refine k_return hK ti_3_33 rk_3 mc_3 ms_3 (Nat.le_of_ble_eq_true rfl) (Nat.le_of_ble_eq_true rfl) ?_
  exact h _ (hF.up (Or.inr (by omega))) (CL_f_rnd hT)

set_option maxRecDepth 100000 in
set_option maxHeartbeats 4000000 in
theorem sp_X3_sendTo_f {X : dp_X} {d n : Nat} {M : dp_M} {o : dp_O} {Q : dp_Q} (h65 : 65 ≤ n) {s : GSt} {l : LSt} (c : Nat) (hC : CG M s) (hT : CLf M l) (hc : c < g_nC s) (h : ∀ M', Fr wL_f M M' → CLf M' (sendL s l c) → Q (.inl (some (.int (oI (snd1 s l c))))) M' o) : dp_run X (d + 4 + 1) 55 [.ref 0, .ref 4, .int (nI c)] n M o Q := by
  apply k_run
  intro K hK
  rw [mL_55]
  show K 0 [some (.ref 0), some (.ref 4), some (.int (nI c)), none, none] [] n 0 0 M o
  have hA16 := hC.w.1
  have hC6 := hC.w.2.1
  refine k_aload_n hK ti_55_0 rfl ?_
  refine k_aload_n hK ti_55_1 rfl ?_
  refine k_iload_n hK ti_55_2 rfl ?_
  refine k_callV hK (as := [.ref 4, .int _]) (st' := []) ti_55_3 ow_55 iv_3_268 mc_55 ms_55 rfl rfl (by omega) (Nat.le_of_ble_eq_true rfl) (Nat.le_of_ble_eq_true rfl) (Nat.le_of_ble_eq_true rfl) (Nat.le_of_ble_eq_true rfl) (by omega) rfl ?_
  refine sp_X3_bestFit_f (by omega) c hC hT (by omega) ?_
  rcases hfa : fA s l c 0 with _ | a
  · have e : snd1 s l c = none := by simp only [snd1, hfa]
    refine k_istore_n hK (L' := [some (.ref 0), some (.ref 4), some (.int _), some (.int _), none]) ti_55_6 rfl ?_
    refine k_iload_n hK ti_55_7 rfl ?_
    refine k_iconst hK ti_55_8 kI_m1 ?_
    refine k_icmp_ne hK ti_55_9 jt_9_5 (fun c_9 => ?_) (fun c_9 => ?_)
    · refine k_iconst hK ti_55_12 kI_m1 ?_
      refine k_ireturn hK ti_55_13 rk_55 mc_55 ms_55 (Nat.le_of_ble_eq_true rfl) (Nat.le_of_ble_eq_true rfl) ?_
      have h := h M (Fr.refl _ _) (by rw [sendL_none e]; exact hT)
      rw [e] at h
      exact h
    · exact absurd rfl c_9
  · have ha := fA_lt hfa
    refine k_istore_n hK (L' := [some (.ref 0), some (.ref 4), some (.int _), some (.int _), none]) ti_55_6 rfl ?_
    refine k_iload_n hK ti_55_7 rfl ?_
    refine k_iconst hK ti_55_8 kI_m1 ?_
    refine k_icmp_ne hK ti_55_9 jt_9_5 (fun c_9 => ?_) (fun c_9 => ?_)
    · exact absurd c_9 (nI_nm1 (by omega))
    · refine k_aload_n hK ti_55_14 rfl ?_
      refine k_aload_n hK ti_55_15 rfl ?_
      refine k_iload_n hK ti_55_16 rfl ?_
      refine k_iload_n hK ti_55_17 rfl ?_
      refine k_callV hK (as := [.ref 4, .int _, .int _]) (st' := []) ti_55_18 ow_55 iv_3_271 mc_55 ms_55 rfl rfl (by omega) (Nat.le_of_ble_eq_true rfl) (Nat.le_of_ble_eq_true rfl) (Nat.le_of_ble_eq_true rfl) (Nat.le_of_ble_eq_true rfl) (by omega) rfl ?_
      refine sp_X3_priceFor_f (by omega) c a hC hT (by omega) (by omega) ?_
      refine k_istore hK (L' := [some (.ref 0), some (.ref 4), some (.int _), some (.int _), some (.int _)]) ti_55_21 rfl ?_
      refine k_aload_n hK ti_55_23 rfl ?_
      refine k_get hK ti_55_24 ow_55 fd_3_91 (by omega) rfl rfl ?_
      refine k_iload_n hK ti_55_27 rfl ?_
      refine k_ialdv (v := (l_coin l c)) hK c ti_55_28 rfl (by omega) (by omega) rfl (by rw [dpl_19]; omega) (hT.2.2.1 c (by omega)).1 ?_
      refine k_iload hK ti_55_29 rfl ?_
      refine k_icmp_ge hK ti_55_31 jt_31_5 (fun c_31 => ?_) (fun c_31 => ?_)
      · have e : snd1 s l c = none := by simp only [snd1, hfa, if_pos c_31]
        refine k_iconst hK ti_55_34 kI_m1 ?_
        refine k_ireturn hK ti_55_35 rk_55 mc_55 ms_55 (Nat.le_of_ble_eq_true rfl) (Nat.le_of_ble_eq_true rfl) ?_
        have h := h M (Fr.refl _ _) (by rw [sendL_none e]; exact hT)
        rw [e] at h
        exact h
      · have e : snd1 s l c = some a := by simp only [snd1, hfa, if_neg c_31]
        refine k_aload_n hK ti_55_36 rfl ?_
        refine k_iload_n hK ti_55_37 rfl ?_
        refine k_iload_n hK ti_55_38 rfl ?_
        refine k_iload hK ti_55_39 rfl ?_
        refine k_callV hK (as := [.int _, .int _, .int _]) (st' := []) ti_55_41 ow_55 iv_3_274 mc_55 ms_55 rfl rfl (by omega) (Nat.le_of_ble_eq_true rfl) (Nat.le_of_ble_eq_true rfl) (Nat.le_of_ble_eq_true rfl) (Nat.le_of_ble_eq_true rfl) (by omega) rfl ?_
        refine sp_X0_book_f (by omega) c a (prc s l c a) hT (by omega) (by omega) (fun M2 hF hL2 => ?_)
        refine k_iload_n hK ti_55_44 rfl ?_
        refine k_ireturn hK ti_55_45 rk_55 mc_55 ms_55 (Nat.le_of_ble_eq_true rfl) (Nat.le_of_ble_eq_true rfl) ?_
        rw [← sendL_some e] at hL2
        have h := h _ hF hL2
        rw [e] at h
        exact h

set_option maxRecDepth 100000 in
set_option maxHeartbeats 4000000 in
theorem sp_X3_playRounds_f {X : dp_X} {d n : Nat} {M : dp_M} {o : dp_O} {Q : dp_Q} (h65 : 65 ≤ n) {s : GSt} {l : LSt} (k : Nat) (hC : CG M s) (hT : CLf M l) (hk : k ≤ 30) (h : ∀ M', Fr wL_f M M' → CLf M' (roundsL s l k) → Q (.inl none) M' o) : dp_run X (d + 5 + 1) 56 [.ref 0, .ref 4, .int (nI k)] n M o Q := by
  apply k_run
  intro K hK
  rw [mL_56]
  show K 0 [some (.ref 0), some (.ref 4), some (.int (nI k)), none, none] [] n 0 0 M o
  have hA16 := hC.w.1
  have hC6 := hC.w.2.1
  refine k_iconst hK ti_56_0 kI_0 ?_
  refine k_istore_n hK (L' := [some (.ref 0), some (.ref 4), some (.int _), some (.int _), none]) ti_56_1 rfl ?_
  suffices hx : ∀ (u : Option Value) (M' : dp_M), (Fr wL_f M M') → (CG M' s) → (CLf M' (roundsL s l k)) → K 61 [some (.ref 0), some (.ref 4), some (.int (nI k)), some (.int (nI k)), u] [] n 0 0 M' o by
    have loop : ∀ (f i : Nat) (u : Option Value) (M' : dp_M), i ≤ k → k - i < f → (Fr wL_f M M') → (CG M' s) → (CLf M' (roundsL s l i)) → K 2 [some (.ref 0), some (.ref 4), some (.int (nI k)), some (.int (nI i)), u] [] n 0 0 M' o := by
      intro f
      induction f with
      | zero => intro i u M' h1 h2; omega
      | succ f ih =>
        intro i u M' h1 h2 hF hC hT
        refine k_iload_n hK ti_56_2 rfl ?_
        refine k_iload_n hK ti_56_3 rfl ?_
        refine kn_ge hK (by omega) (by omega) ti_56_4 jt_4_57 (fun c_4 => ?_) (fun c_4 => ?_)
        · refine k_iconst hK ti_56_7 kI_0 ?_
          refine k_istore hK (L' := [some (.ref 0), some (.ref 4), some (.int _), some (.int _), some (.int _)]) ti_56_8 rfl ?_
          suffices hx2 : ∀ (M' : dp_M), (Fr wL_f M M') → (CG M' s) → (CLf M' (tw s (roundsL s l i) (2 * (g_nC s)))) → K 44 [some (.ref 0), some (.ref 4), some (.int (nI k)), some (.int (nI i)), some (.int (nI ((g_nC s))))] [] n 0 0 M' o by
            have loop2 : ∀ (f2 j : Nat) (M' : dp_M), j ≤ (g_nC s) → (g_nC s) - j < f2 → (Fr wL_f M M') → (CG M' s) → (CLf M' (tw s (roundsL s l i) (2 * j))) → K 10 [some (.ref 0), some (.ref 4), some (.int (nI k)), some (.int (nI i)), some (.int (nI j))] [] n 0 0 M' o := by
              intro f2
              induction f2 with
              | zero => intro j M' h12 h22; omega
              | succ f2 ih2 =>
                intro j M' h12 h22 hF hC hT
                refine k_iload hK ti_56_10 rfl ?_
                refine k_aload_n hK ti_56_12 rfl ?_
                refine k_get hK ti_56_13 ow_56 fd_3_19 (by omega) rfl rfl ?_
                refine k_geti hK (nI (g_nC s)) ti_56_16 ow_56 fd_3_86 (by omega) rfl rfl hC.nC ?_
                refine kn_ge hK (by omega) (by omega) ti_56_19 jt_19_25 (fun c_19 => ?_) (fun c_19 => ?_)
                · refine k_aload_n hK ti_56_22 rfl ?_
                  refine k_aload_n hK ti_56_23 rfl ?_
                  refine k_iload hK ti_56_24 rfl ?_
                  refine k_callV hK (as := [.ref 4, .int _]) (st' := []) ti_56_26 ow_56 iv_3_125 mc_56 ms_56 rfl rfl (by omega) (Nat.le_of_ble_eq_true rfl) (Nat.le_of_ble_eq_true rfl) (Nat.le_of_ble_eq_true rfl) (Nat.le_of_ble_eq_true rfl) (by omega) rfl ?_
                  refine sp_X3_sendTo_f (by omega) j hC hT (by omega) (fun M2 hF2 hL2 => ?_)
                  have hC2 := hC.fr_f hF2
                  refine k_pop hK ti_56_29 rfl ?_
                  refine k_aload_n hK ti_56_30 rfl ?_
                  refine k_aload_n hK ti_56_31 rfl ?_
                  refine k_iload hK ti_56_32 rfl ?_
                  refine k_callV hK (as := [.ref 4, .int _]) (st' := []) ti_56_34 ow_56 iv_3_125 mc_56 ms_56 rfl rfl (by omega) (Nat.le_of_ble_eq_true rfl) (Nat.le_of_ble_eq_true rfl) (Nat.le_of_ble_eq_true rfl) (Nat.le_of_ble_eq_true rfl) (by omega) rfl ?_
                  refine sp_X3_sendTo_f (by omega) j hC2 hL2 (by omega) (fun M3 hF3 hL3 => ?_)
                  have hC3 := hC2.fr_f hF3
                  refine k_pop hK ti_56_37 rfl ?_
                  refine k_iinc hK (L' := [some (.ref 0), some (.ref 4), some (.int _), some (.int _), some (.int (nI (j + 1)))]) ti_56_38 rfl (by rw [kI_1, nI_add]) rfl ?_
                  refine k_goto hK ti_56_41 jt_41_m31 ?_
                  exact ih2 (j + 1) _ (by omega) (by omega) ((hF.trans hF2).trans hF3) hC3 (by rw [show 2 * (j + 1) = 2 * j + 1 + 1 by omega]; unfold tw; rw [show (2 * j + 1) / 2 = j by omega]; unfold tw; rw [show 2 * j / 2 = j by omega]; exact hL3)
                · obtain rfl : j = (g_nC s) := by omega
                  exact hx2 _ hF hC hT
            exact loop2 ((g_nC s) - 0 + 1) 0 _ (by omega) (by omega) hF hC hT
          intro M' hF hC hT
          refine k_aload_n hK ti_56_44 rfl ?_
          refine k_aload_n hK ti_56_45 rfl ?_
          refine k_get hK ti_56_46 ow_56 fd_3_10 (by omega) rfl rfl ?_
          refine k_geti hK (nI (g_nA s)) ti_56_49 ow_56 fd_3_50 (by omega) rfl rfl hC.nA ?_
          refine k_callV hK (as := [.int _]) (st' := []) ti_56_52 ow_56 iv_3_278 mc_56 ms_56 rfl rfl (by omega) (Nat.le_of_ble_eq_true rfl) (Nat.le_of_ble_eq_true rfl) (Nat.le_of_ble_eq_true rfl) (Nat.le_of_ble_eq_true rfl) (by omega) rfl ?_
          refine sp_X0_growOlder_f (by omega) (g_nA s) hT (by omega) (fun M5 hF5 hL5 => ?_)
          have hC5 := hC.fr_f hF5
          refine k_iinc hK (L' := [some (.ref 0), some (.ref 4), some (.int _), some (.int (nI (i + 1))), some (.int _)]) ti_56_55 rfl (by rw [kI_1, nI_add]) rfl ?_
          refine k_goto hK ti_56_58 jt_58_m56 ?_
          exact ih (i + 1) _ _ (by omega) (by omega) (hF.trans hF5) hC5 hL5
        · obtain rfl : i = k := by omega
          exact hx _ _ hF hC hT
    exact loop (k - 0 + 1) 0 _ _ (by omega) (by omega) (Fr.refl _ _) hC hT
  intro u M' hF hC hT
  refine k_return hK ti_56_61 rk_56 mc_56 ms_56 (Nat.le_of_ble_eq_true rfl) (Nat.le_of_ble_eq_true rfl) ?_
  exact h _ hF hT

