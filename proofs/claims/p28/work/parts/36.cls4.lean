/-! The class: counting anew, ledgers played. (written by wip/whole/cls4.py) -/
set_option maxRecDepth 100000 in
set_option maxHeartbeats 4000000 in
theorem sp_J7_fill {X : dp_X} {d n : Nat} {M : dp_M} {o : dp_O} {Q : dp_Q} (h65 : 65 ≤ n) (hd : Nat) (v : Int32) (hA : dp_isA hd = true) (hh : hd < 65) (hl : dp_len hd < 2 ^ 31) (h : ∀ M', (∀ k, k < dp_len hd → M' hd k = v) → (∀ b k, b ≠ hd → M' b k = M b k) → Q (.inl none) M' o) : dp_run X (d + 0 + 1) 70 [.ref hd, .int v] n M o Q := by
  apply k_run
  intro K hK
  rw [mL_70]
  show K 0 [some (.ref hd), some (.int v), none, none] [] n 0 0 M o
  refine k_iconst hK ti_70_0 kI_0 ?_
  refine k_istore_n hK (L' := [some (.ref hd), some (.int _), some (.int _), none]) ti_70_1 rfl ?_
  refine k_aload_n hK ti_70_2 rfl ?_
  refine (k_alen hK ti_70_3 hA (by omega) (by omega) rfl ?_)
  refine k_istore_n hK (L' := [some (.ref hd), some (.int _), some (.int _), some (.int _)]) ti_70_4 rfl ?_
  have loop : ∀ (f i : Nat) (M' : dp_M), i ≤ (dp_len hd) → (dp_len hd) - i < f → (∀ k, k < i → M' hd k = v) → (∀ b k, b ≠ hd → M' b k = M b k) → K 5 [some (.ref hd), some (.int v), some (.int (nI i)), some (.int (nI (dp_len hd)))] [] n 0 0 M' o := by
    intro f
    induction f with
    | zero => intro i M' h1 h2; omega
    | succ f ih =>
      intro i M' h1 h2 h3 h4
      refine k_iload_n hK ti_70_5 rfl ?_
      refine k_iload_n hK ti_70_6 rfl ?_
      refine kn_ge hK (by omega) (by omega) ti_70_7 jt_7_13 (fun c_7 => ?_) (fun c_7 => ?_)
      · refine k_aload_n hK ti_70_10 rfl ?_
        refine k_iload_n hK ti_70_11 rfl ?_
        refine k_iload_n hK ti_70_12 rfl ?_
        refine k_iast hK i ti_70_13 hA (by omega) rfl (by omega) ?_
        refine k_iinc hK (L' := [some (.ref hd), some (.int _), some (.int (nI (i + 1))), some (.int _)]) ti_70_14 rfl (by rw [kI_1, nI_add]) rfl ?_
        refine k_goto hK ti_70_17 jt_17_m12 ?_
        exact ih (i + 1) _ (by omega) (by omega) (fun k hk => by by_cases e : k = i; (subst e; exact dp_up_s _ _ _ _); rw [dp_up_k e]; exact h3 k (by omega)) (fun b k e => by rw [dp_up_h e]; exact h4 b k e)
      · refine k_return hK ti_70_20 rk_70 mc_70 ms_70 (Nat.le_of_ble_eq_true rfl) (Nat.le_of_ble_eq_true rfl) ?_
        exact h M' (fun k hk => h3 k (by omega)) h4
  exact loop ((dp_len hd) - 0 + 1) 0 _ (by omega) (by omega) (fun k hk => absurd hk (by omega)) (fun _ _ _ => rfl)

set_option maxRecDepth 100000 in
set_option maxHeartbeats 4000000 in
theorem sp_X2_stemOfWord0 {X : dp_X} {d n : Nat} {M : dp_M} {o : dp_O} {Q : dp_Q} (h65 : 65 ≤ n) (w : Nat) (hw : w < 40) (h : Q (.inl (some (.int (M 6 w)))) M o) : dp_run X (d + 0 + 1) 10 [.ref 1, .int (nI w)] n M o Q := by
  apply k_run
  intro K hK
  rw [mL_10]
  show K 0 [some (.ref 1), some (.int (nI w))] [] n 0 0 M o
  refine k_iload_n hK ti_10_0 rfl ?_
  refine kz_lt hK (by omega) ti_10_1 jt_1_9 ?_
  refine k_iload_n hK ti_10_4 rfl ?_
  refine k_bipush hK ti_10_5 kB_40 ?_
  refine kn_lt hK (by omega) (by omega) ti_10_7 jt_7_7 (fun c_7 => ?_) (fun c_7 => ?_)
  · refine k_aload_n hK ti_10_14 rfl ?_
    refine k_get hK ti_10_15 ow_10 fd_2_9 (by omega) rfl rfl ?_
    refine k_iload_n hK ti_10_18 rfl ?_
    refine k_iald hK w ti_10_19 rfl (by omega) (by omega) rfl (by rw [dpl_6]; omega) ?_
    refine k_ireturn hK ti_10_20 rk_10 mc_10 ms_10 (Nat.le_of_ble_eq_true rfl) (Nat.le_of_ble_eq_true rfl) ?_
    exact h
  · exfalso; omega

set_option maxRecDepth 100000 in
set_option maxHeartbeats 4000000 in
theorem sp_X2_recountArticle {X : dp_X} {d n : Nat} {M : dp_M} {o : dp_O} {Q : dp_Q} (h65 : 65 ≤ n) {s : GSt} (a : Nat) (hC : CG0 M s) (ha : a < g_nA s) (hh : ∀ x, x < 20 → M 10 x = nI (hvi s x a)) (h : ∀ M', (∀ x, x < 20 → M' (43 + a) x = nI (tm s a x)) → (∀ x, x < 20 → M' 10 x = nI (hvi s x (a + 1))) → (∀ b k, b ≠ 43 + a → b ≠ 10 → M' b k = M b k) → Q (.inl none) M' o) : dp_run X (d + 1 + 1) 9 [.ref 1, .int (nI a)] n M o Q := by
  apply k_run
  intro K hK
  rw [mL_9]
  show K 0 [some (.ref 1), some (.int (nI a)), none, none, none] [] n 0 0 M o
  have hA16 := hC.1.1
  have hlen := hC.1.2.2.2.1 a (by omega)
  have hC0 := hC
  refine k_aload_n hK ti_9_0 rfl ?_
  refine k_get hK ti_9_1 ow_9 fd_2_23 (by omega) rfl rfl ?_
  refine k_iload_n hK ti_9_4 rfl ?_
  refine k_aald9 hK a ti_9_5 (by omega) rfl (by omega) ?_
  refine k_astore_n hK (L' := [some (.ref 1), some (.int _), some (.ref (43 + a)), none, none]) ti_9_6 rfl ?_
  refine k_aload_n hK ti_9_7 rfl ?_
  refine k_iconst hK ti_9_8 kI_0 ?_
  refine k_callS hK (as := [.ref (43 + a), .int _]) (st' := []) ti_9_9 ow_9 iv_2_29 mc_9 ms_9 rfl rfl (by omega) (Nat.le_of_ble_eq_true rfl) (Nat.le_of_ble_eq_true rfl) (Nat.le_of_ble_eq_true rfl) (Nat.le_of_ble_eq_true rfl) ?_
  refine sp_J7_fill (by omega) (43 + a) (nI 0) (dp_isA_t _ (by omega)) (by omega) (by rw [dpl_43 _ (by omega)]; decide) (fun M1 hf1 hf2 => ?_)
  rw [dpl_43 _ (by omega)] at hf1
  have hz : dp_len (43 + a) = 20 := dpl_43 _ (by omega)
  refine k_iconst hK ti_9_12 kI_0 ?_
  refine k_istore_n hK (L' := [some (.ref 1), some (.int _), some (.ref (43 + a)), some (.int _), none]) ti_9_13 rfl ?_
  suffices hx : ∀ (u : Option Value) (M' : dp_M), (∀ x, x < 20 → M' (43 + a) x = nI (tmi s a x (g_len s a))) → (∀ b k, b ≠ 43 + a → M' b k = M b k) → K 64 [some (.ref 1), some (.int (nI a)), some (.ref (43 + a)), some (.int (nI ((g_len s a)))), u] [] n 0 0 M' o by
    have loop : ∀ (f i : Nat) (u : Option Value) (M' : dp_M), i ≤ (g_len s a) → (g_len s a) - i < f → (∀ x, x < 20 → M' (43 + a) x = nI (tmi s a x i)) → (∀ b k, b ≠ 43 + a → M' b k = M b k) → K 14 [some (.ref 1), some (.int (nI a)), some (.ref (43 + a)), some (.int (nI i)), u] [] n 0 0 M' o := by
      intro f
      induction f with
      | zero => intro i u M' h1 h2; omega
      | succ f ih =>
        intro i u M' h1 h2 h3 h4
        refine k_iload_n hK ti_9_14 rfl ?_
        refine k_aload_n hK ti_9_15 rfl ?_
        refine k_get hK ti_9_16 ow_9 fd_2_20 (by omega) rfl rfl ?_
        refine k_iload_n hK ti_9_19 rfl ?_
        refine k_ialdv (v := (nI (g_len s a))) hK a ti_9_20 rfl (by omega) (by omega) rfl (by rw [dpl_8]; omega) ((h4 8 a (by omega)).trans (hC.len a (by omega))) ?_
        refine kn_ge hK (by omega) (by omega) ti_9_21 jt_21_43 (fun c_21 => ?_) (fun c_21 => ?_)
        · have hw40 := hC.1.2.2.2.2.1 a i (by omega) c_21
          have hs20 := hC.1.2.2.1 _ hw40
          refine k_aload_n hK ti_9_24 rfl ?_
          refine k_aload_n hK ti_9_25 rfl ?_
          refine k_get hK ti_9_26 ow_9 fd_2_17 (by omega) rfl rfl ?_
          refine k_iload_n hK ti_9_29 rfl ?_
          refine k_aald7 hK a ti_9_30 (by omega) rfl (by omega) ?_
          refine k_iload_n hK ti_9_31 rfl ?_
          refine k_ialdv (v := (nI (g_wd s a i))) hK i ti_9_32 (dp_isA_t _ (by omega)) (by omega) (by omega) rfl (by rw [dpl_27 _ (by omega)]; omega) ((h4 (27 + a) i (by omega)).trans (hC.wd a i (by omega) c_21)) ?_
          refine k_callV hK (as := [.int _]) (st' := []) ti_9_33 ow_9 iv_2_43 mc_9 ms_9 rfl rfl (by omega) (Nat.le_of_ble_eq_true rfl) (Nat.le_of_ble_eq_true rfl) (Nat.le_of_ble_eq_true rfl) (Nat.le_of_ble_eq_true rfl) (by omega) rfl ?_
          refine sp_X2_stemOfWord0 (by omega) (g_wd s a i) hw40 (k_aftv (nI (g_st s (g_wd s a i))) ((h4 6 _ (by omega)).trans (hC.st _ hw40)) ?_)
          refine k_istore hK (L' := [some (.ref 1), some (.int _), some (.ref (43 + a)), some (.int _), some (.int _)]) ti_9_36 rfl ?_
          refine k_iload hK ti_9_38 rfl ?_
          refine kz_lt hK (by omega) ti_9_40 jt_40_18 ?_
          refine k_iload hK ti_9_43 rfl ?_
          refine k_bipush hK ti_9_45 kB_20 ?_
          refine kn_ge hK (by omega) (by omega) ti_9_47 jt_47_11 (fun c_47 => ?_) (fun c_47 => ?_)
          · refine k_aload_n hK ti_9_50 rfl ?_
            refine k_iload hK ti_9_51 rfl ?_
            refine k_dup2 hK ti_9_53 rfl rfl ?_
            refine k_ialdv (v := (nI (tmi s a (g_st s (g_wd s a i)) i))) hK (g_st s (g_wd s a i)) ti_9_54 (dp_isA_t _ (by omega)) (by omega) (by omega) rfl (by rw [dpl_43 _ (by omega)]; omega) (h3 _ hs20) ?_
            refine k_iconst hK ti_9_55 kI_1 ?_
            refine k_iadd hK (z := (nI (tmi s a (g_st s (g_wd s a i)) i + 1))) ti_9_56 (nI_add _ _) ?_
            refine k_iast hK (g_st s (g_wd s a i)) ti_9_57 (dp_isA_t _ (by omega)) (by omega) rfl (by rw [dpl_43 _ (by omega)]; omega) ?_
            refine k_iinc hK (L' := [some (.ref 1), some (.int _), some (.ref (43 + a)), some (.int (nI (i + 1))), some (.int _)]) ti_9_58 rfl (by rw [kI_1, nI_add]) rfl ?_
            refine k_goto hK ti_9_61 jt_61_m47 ?_
            exact ih (i + 1) _ _ (by omega) (by omega) (fun x hx => by by_cases e : x = g_st s (g_wd s a i); (subst e; rw [dp_up_s, tmi_t rfl]); rw [dp_up_k e, tmi_f (fun z => e z.symm)]; exact h3 x hx) (fun b k e => by rw [dp_up_h e]; exact h4 b k e)
          · exfalso; omega
        · obtain rfl : i = (g_len s a) := by omega
          exact hx _ _ h3 h4
    exact loop ((g_len s a) - 0 + 1) 0 _ _ (by omega) (by omega) (fun x hx => hf1 x hx) (fun b k e => hf2 b k e)
  intro u M' h3 h4
  refine k_iconst hK ti_9_64 kI_0 ?_
  refine k_istore_n hK (L' := [some (.ref 1), some (.int _), some (.ref (43 + a)), some (.int _), u]) ti_9_65 rfl ?_
  suffices hx2 : ∀ (M' : dp_M), (∀ x, x < 20 → M' (43 + a) x = nI (tm s a x)) → (∀ x, x < 20 → 20 ≤ x → M' 10 x = nI (hvi s x a)) → (∀ x, x < 20 → M' 10 x = nI (hvi s x (a + 1))) → (∀ b k, b ≠ 43 + a → b ≠ 10 → M' b k = M b k) → K 94 [some (.ref 1), some (.int (nI a)), some (.ref (43 + a)), some (.int (nI 20)), u] [] n 0 0 M' o by
    have loop2 : ∀ (f2 j : Nat) (M' : dp_M), j ≤ 20 → 20 - j < f2 → (∀ x, x < 20 → M' (43 + a) x = nI (tm s a x)) → (∀ x, x < 20 → j ≤ x → M' 10 x = nI (hvi s x a)) → (∀ x, x < j → M' 10 x = nI (hvi s x (a + 1))) → (∀ b k, b ≠ 43 + a → b ≠ 10 → M' b k = M b k) → K 66 [some (.ref 1), some (.int (nI a)), some (.ref (43 + a)), some (.int (nI j)), u] [] n 0 0 M' o := by
      intro f2
      induction f2 with
      | zero => intro j M' h12 h22; omega
      | succ f2 ih2 =>
        intro j M' h12 h22 h5 h6 h7 h8
        refine k_iload_n hK ti_9_66 rfl ?_
        refine k_bipush hK ti_9_67 kB_20 ?_
        refine kn_ge hK (by omega) (by omega) ti_9_69 jt_69_25 (fun c_69 => ?_) (fun c_69 => ?_)
        · have htb := tm_le hC.1 (a := a) (by omega) j
          refine k_aload_n hK ti_9_72 rfl ?_
          refine k_iload_n hK ti_9_73 rfl ?_
          refine k_ialdv (v := (nI (tm s a j))) hK j ti_9_74 (dp_isA_t _ (by omega)) (by omega) (by omega) rfl (by rw [dpl_43 _ (by omega)]; omega) (h5 j c_69) ?_
          refine kz_le hK (by omega) ti_9_75 jt_75_13 (fun c_75 => ?_) (fun c_75 => ?_)
          · have htm := c_75
            refine k_aload_n hK ti_9_78 rfl ?_
            refine k_get hK ti_9_79 ow_9 fd_2_26 (by omega) rfl rfl ?_
            refine k_iload_n hK ti_9_82 rfl ?_
            refine k_dup2 hK ti_9_83 rfl rfl ?_
            refine k_ialdv (v := (nI (hvi s j a))) hK j ti_9_84 rfl (by omega) (by omega) rfl (by rw [dpl_10]; omega) ((h6 j c_69 (Nat.le_refl _))) ?_
            refine k_iconst hK ti_9_85 kI_1 ?_
            refine k_iadd hK (z := (nI (hvi s j a + 1))) ti_9_86 (nI_add _ _) ?_
            refine k_iast hK j ti_9_87 rfl (by omega) rfl (by rw [dpl_10]; omega) ?_
            refine k_iinc hK (L' := [some (.ref 1), some (.int _), some (.ref (43 + a)), some (.int (nI (j + 1))), u]) ti_9_88 rfl (by rw [kI_1, nI_add]) rfl ?_
            refine k_goto hK ti_9_91 jt_91_m25 ?_
            exact ih2 (j + 1) _ (by omega) (by omega) (fun x hx => by (try rw [dp_up_h (by omega)]); exact h5 x hx) (fun x hx e => by (try rw [dp_up_k (by omega)]); exact h6 x hx (by omega)) (fun x hx => by by_cases e : x = j; (subst e; first | (rw [dp_up_s, hvi_t htm]) | (rw [‹hvi s _ (a + 1) = hvi s _ a›]; exact h6 _ (by omega) (Nat.le_refl _))); (try rw [dp_up_k e]); exact h7 x (by omega)) (fun b k e e2 => by (try rw [dp_up_h e2]); exact h8 b k e e2)
          · have e3 := hvi_f c_75
            refine k_iinc hK (L' := [some (.ref 1), some (.int _), some (.ref (43 + a)), some (.int (nI (j + 1))), u]) ti_9_88 rfl (by rw [kI_1, nI_add]) rfl ?_
            refine k_goto hK ti_9_91 jt_91_m25 ?_
            exact ih2 (j + 1) _ (by omega) (by omega) (fun x hx => by (try rw [dp_up_h (by omega)]); exact h5 x hx) (fun x hx e => by (try rw [dp_up_k (by omega)]); exact h6 x hx (by omega)) (fun x hx => by by_cases e : x = j; (subst e; first | (rw [dp_up_s, hvi_t htm]) | (rw [‹hvi s _ (a + 1) = hvi s _ a›]; exact h6 _ (by omega) (Nat.le_refl _))); (try rw [dp_up_k e]); exact h7 x (by omega)) (fun b k e e2 => by (try rw [dp_up_h e2]); exact h8 b k e e2)
        · obtain rfl : j = 20 := by omega
          exact hx2 _ h5 h6 h7 h8
    exact loop2 (20 - 0 + 1) 0 _ (by omega) (by omega) h3 (fun x hx _ => (h4 10 x (by omega)).trans (hh x hx)) (fun x hx => absurd hx (by omega)) (fun b k e _ => h4 b k e)
  intro M' h5 h6 h7 h8
  refine k_return hK ti_9_94 rk_9 mc_9 ms_9 (Nat.le_of_ble_eq_true rfl) (Nat.le_of_ble_eq_true rfl) ?_
  exact h M' h5 (fun x hx => h7 x hx) h8
