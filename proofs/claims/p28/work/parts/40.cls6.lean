/-! The class: copies, a stem tried, its checks, taking out of a row. (written by wip/whole/cls6.py) -/
set_option maxRecDepth 100000 in
set_option maxHeartbeats 4000000 in
theorem sp_X0_copyFrom {X : dp_X} {d n : Nat} {M : dp_M} {o : dp_O} {Q : dp_Q} (h65 : 65 ≤ n) (h : Q (.inl none) (cpf M) o) : dp_run X (d + 0 + 1) 0 [.ref 4, .ref 3] n M o Q := by
  apply k_run
  intro K hK
  rw [mL_0]
  show K 0 [some (.ref 4), some (.ref 3)] [] n 0 0 M o
  refine k_aload_n hK ti_0_0 rfl ?_
  refine k_get hK ti_0_1 ow_0 fd_0_9 (by omega) rfl rfl ?_
  refine k_iconst hK ti_0_4 kI_0 ?_
  refine k_aload_n hK ti_0_5 rfl ?_
  refine k_get hK ti_0_6 ow_0 fd_0_9 (by omega) rfl rfl ?_
  refine k_iconst hK ti_0_9 kI_0 ?_
  refine k_bipush hK ti_0_10 kB_16 ?_
  refine k_copy hK 0 0 16 ti_0_12 ow_0 nt_0_24 (Nat.le_of_ble_eq_true rfl) rfl rfl (by omega) (by omega) rfl rfl rfl (by rw [dpl_14]; omega) (by rw [dpl_18]; omega) ?_
  refine k_aload_n hK ti_0_15 rfl ?_
  refine k_get hK ti_0_16 ow_0 fd_0_15 (by omega) rfl rfl ?_
  refine k_iconst hK ti_0_19 kI_0 ?_
  refine k_aload_n hK ti_0_20 rfl ?_
  refine k_get hK ti_0_21 ow_0 fd_0_15 (by omega) rfl rfl ?_
  refine k_iconst hK ti_0_24 kI_0 ?_
  refine k_bipush hK ti_0_25 kB_6 ?_
  refine k_copy hK 0 0 6 ti_0_27 ow_0 nt_0_24 (Nat.le_of_ble_eq_true rfl) rfl rfl (by omega) (by omega) rfl rfl rfl (by rw [dpl_15]; omega) (by rw [dpl_19]; omega) ?_
  refine k_aload_n hK ti_0_30 rfl ?_
  refine k_get hK ti_0_31 ow_0 fd_0_18 (by omega) rfl rfl ?_
  refine k_iconst hK ti_0_34 kI_0 ?_
  refine k_aload_n hK ti_0_35 rfl ?_
  refine k_get hK ti_0_36 ow_0 fd_0_18 (by omega) rfl rfl ?_
  refine k_iconst hK ti_0_39 kI_0 ?_
  refine k_bipush hK ti_0_40 kB_6 ?_
  refine k_copy hK 0 0 6 ti_0_42 ow_0 nt_0_24 (Nat.le_of_ble_eq_true rfl) rfl rfl (by omega) (by omega) rfl rfl rfl (by rw [dpl_16]; omega) (by rw [dpl_20]; omega) ?_
  refine k_aload_n hK ti_0_45 rfl ?_
  refine k_get hK ti_0_46 ow_0 fd_0_21 (by omega) rfl rfl ?_
  refine k_iconst hK ti_0_49 kI_0 ?_
  refine k_aload_n hK ti_0_50 rfl ?_
  refine k_get hK ti_0_51 ow_0 fd_0_21 (by omega) rfl rfl ?_
  refine k_iconst hK ti_0_54 kI_0 ?_
  refine k_bipush hK ti_0_55 kB_6 ?_
  refine k_copy hK 0 0 6 ti_0_57 ow_0 nt_0_24 (Nat.le_of_ble_eq_true rfl) rfl rfl (by omega) (by omega) rfl rfl rfl (by rw [dpl_17]; omega) (by rw [dpl_21]; omega) ?_
  refine k_aload_n hK ti_0_60 rfl ?_
  refine k_aload_n hK ti_0_61 rfl ?_
  refine k_get hK ti_0_62 ow_0 fd_0_30 (by omega) rfl rfl ?_
  refine k_put hK ti_0_65 ow_0 fd_0_30 (by omega) rfl rfl ?_
  refine k_return hK ti_0_68 rk_0 mc_0 ms_0 (Nat.le_of_ble_eq_true rfl) (Nat.le_of_ble_eq_true rfl) ?_
  exact h


set_option maxRecDepth 100000 in
set_option maxHeartbeats 4000000 in
theorem sp_X3_removeAt {X : dp_X} {d n : Nat} {M : dp_M} {o : dp_O} {Q : dp_Q} (h65 : 65 ≤ n) (hd m p : Nat) (hA : dp_isA hd = true) (hh : hd < 65) (hl : m ≤ dp_len hd) (hp : p < m) (hm : m ≤ 12) (h : ∀ M', (∀ k, k + 1 < m → M' hd k = if p ≤ k then M hd (k + 1) else M hd k) → (∀ b k, b ≠ hd → M' b k = M b k) → Q (.inl (some (.int (nI (m - 1))))) M' o) : dp_run X (d + 0 + 1) 58 [.ref hd, .int (nI m), .int (nI p)] n M o Q := by
  apply k_run
  intro K hK
  rw [mL_58]
  show K 0 [some (.ref hd), some (.int (nI m)), some (.int (nI p)), none] [] n 0 0 M o
  refine k_iload_n hK ti_58_0 rfl ?_
  refine k_istore_n hK (L' := [some (.ref hd), some (.int _), some (.int _), some (.int _)]) ti_58_1 rfl ?_
  have loop : ∀ (f i : Nat) (M' : dp_M), i ≤ (m - 1) → (m - 1) - i < f → (p ≤ i) → (∀ k, M' hd k = if p ≤ k ∧ k < i then M hd (k + 1) else M hd k) → (∀ b k, b ≠ hd → M' b k = M b k) → K 2 [some (.ref hd), some (.int (nI m)), some (.int (nI p)), some (.int (nI i))] [] n 0 0 M' o := by
    intro f
    induction f with
    | zero => intro i M' h1 h2; omega
    | succ f ih =>
      intro i M' h1 h2 h5 h3 h4
      refine k_iload_n hK ti_58_2 rfl ?_
      refine k_iconst hK ti_58_3 kI_1 ?_
      refine k_iadd hK (z := (nI (i + 1))) ti_58_4 (nI_add _ _) ?_
      refine k_iload_n hK ti_58_5 rfl ?_
      refine kn_ge hK (by omega) (by omega) ti_58_6 jt_6_17 (fun c_6 => ?_) (fun c_6 => ?_)
      · refine k_aload_n hK ti_58_9 rfl ?_
        refine k_iload_n hK ti_58_10 rfl ?_
        refine k_aload_n hK ti_58_11 rfl ?_
        refine k_iload_n hK ti_58_12 rfl ?_
        refine k_iconst hK ti_58_13 kI_1 ?_
        refine k_iadd hK (z := (nI (i + 1))) ti_58_14 (nI_add _ _) ?_
        refine k_ialdv (v := (M hd (i + 1))) hK (i + 1) ti_58_15 hA (by omega) (by omega) rfl (by omega) ((h3 (i + 1)).trans (if_neg (by omega))) ?_
        refine k_iast hK i ti_58_16 hA (by omega) rfl (by omega) ?_
        refine k_iinc hK (L' := [some (.ref hd), some (.int _), some (.int _), some (.int (nI (i + 1)))]) ti_58_17 rfl (by rw [kI_1, nI_add]) rfl ?_
        refine k_goto hK ti_58_20 jt_20_m18 ?_
        exact ih (i + 1) _ (by omega) (by omega) (by omega) (fun k => by by_cases e : k = i; (subst e; rw [dp_up_s, if_pos ⟨h5, by omega⟩]); rw [dp_up_k e, h3 k]; by_cases e2 : p ≤ k ∧ k < i; (rw [if_pos e2, if_pos ⟨e2.1, by omega⟩]); rw [if_neg e2, if_neg (by omega)]) (fun b k e => by rw [dp_up_h e]; exact h4 b k e)
      · obtain rfl : i = m - 1 := by omega
        refine k_iload_n hK ti_58_23 rfl ?_
        refine k_iconst hK ti_58_24 kI_1 ?_
        refine k_isub hK (z := (nI (m - 1))) ti_58_25 (pk_sub (by omega)) ?_
        refine k_ireturn hK ti_58_26 rk_58 mc_58 ms_58 (Nat.le_of_ble_eq_true rfl) (Nat.le_of_ble_eq_true rfl) ?_
        exact h M' (fun k hk => by rw [h3 k]; by_cases e : p ≤ k <;> simp [e] <;> omega) h4
  exact loop ((m - 1) - p + 1) p _ (by omega) (by omega) (Nat.le_refl _) (fun k => (if_neg (by omega)).symm) (fun _ _ _ => rfl)

set_option maxRecDepth 100000 in
set_option maxHeartbeats 4000000 in
theorem sp_X3_checkWord {X : dp_X} {d n : Nat} {M : dp_M} {o : dp_O} {Q : dp_Q} (h65 : 65 ≤ n) (x : Int32) (h1 : (ix (40) x).isSome = true → Q (.inl none) M o) (h0 : ix (40) x = none → Q (.inr 0) M o) : dp_run X (d + 5 + 1) 38 [.int x] n M o Q := by
  apply k_run
  intro K hK
  rw [mL_38]
  show K 0 [some (.int x)] [] n 0 0 M o
  refine k_iload_n hK ti_38_0 rfl ?_
  refine k_if_lt hK ti_38_1 jt_1_9 (fun c_1 => ?_) (fun c_1 => ?_)
  · have e := ix_neg (n := 40) c_1
    refine k_throw hK 0 ti_38_10 ow_38 rfl (by decide) mc_38 ms_38 (by omega) (Nat.le_of_ble_eq_true rfl) (Nat.le_of_ble_eq_true rfl) (Nat.le_of_ble_eq_true rfl) ?_
    exact h0 e
  · refine k_iload_n hK ti_38_4 rfl ?_
    refine k_bipush hK ti_38_5 kB_40 ?_
    refine k_icmp_lt hK ti_38_7 jt_7_13 (fun c_7 => ?_) (fun c_7 => ?_)
    · have e : (ix (40) x).isSome = true := by rw [ix_is c_1 c_7]; rfl
      refine k_return hK ti_38_20 rk_38 mc_38 ms_38 (Nat.le_of_ble_eq_true rfl) (Nat.le_of_ble_eq_true rfl) ?_
      exact h1 e
    · have e := ix_big (n := 40) c_7
      refine k_throw hK 0 ti_38_10 ow_38 rfl (by decide) mc_38 ms_38 (by omega) (Nat.le_of_ble_eq_true rfl) (Nat.le_of_ble_eq_true rfl) (Nat.le_of_ble_eq_true rfl) ?_
      exact h0 e

set_option maxRecDepth 100000 in
set_option maxHeartbeats 4000000 in
theorem sp_X3_checkStem {X : dp_X} {d n : Nat} {M : dp_M} {o : dp_O} {Q : dp_Q} (h65 : 65 ≤ n) (x : Int32) (h1 : (ix (20) x).isSome = true → Q (.inl none) M o) (h0 : ix (20) x = none → Q (.inr 0) M o) : dp_run X (d + 5 + 1) 39 [.int x] n M o Q := by
  apply k_run
  intro K hK
  rw [mL_39]
  show K 0 [some (.int x)] [] n 0 0 M o
  refine k_iload_n hK ti_39_0 rfl ?_
  refine k_if_lt hK ti_39_1 jt_1_9 (fun c_1 => ?_) (fun c_1 => ?_)
  · have e := ix_neg (n := 20) c_1
    refine k_throw hK 0 ti_39_10 ow_39 rfl (by decide) mc_39 ms_39 (by omega) (Nat.le_of_ble_eq_true rfl) (Nat.le_of_ble_eq_true rfl) (Nat.le_of_ble_eq_true rfl) ?_
    exact h0 e
  · refine k_iload_n hK ti_39_4 rfl ?_
    refine k_bipush hK ti_39_5 kB_20 ?_
    refine k_icmp_lt hK ti_39_7 jt_7_13 (fun c_7 => ?_) (fun c_7 => ?_)
    · have e : (ix (20) x).isSome = true := by rw [ix_is c_1 c_7]; rfl
      refine k_return hK ti_39_20 rk_39 mc_39 ms_39 (Nat.le_of_ble_eq_true rfl) (Nat.le_of_ble_eq_true rfl) ?_
      exact h1 e
    · have e := ix_big (n := 20) c_7
      refine k_throw hK 0 ti_39_10 ow_39 rfl (by decide) mc_39 ms_39 (by omega) (Nat.le_of_ble_eq_true rfl) (Nat.le_of_ble_eq_true rfl) (Nat.le_of_ble_eq_true rfl) ?_
      exact h0 e

set_option maxRecDepth 100000 in
set_option maxHeartbeats 4000000 in
theorem sp_X3_checkArticle {X : dp_X} {d n : Nat} {M : dp_M} {o : dp_O} {Q : dp_Q} (h65 : 65 ≤ n) {s : GSt} (x : Int32) (hC : CG M s) (h1 : (ix (g_nA s) x).isSome = true → Q (.inl none) M o) (h0 : ix (g_nA s) x = none → Q (.inr 0) M o) : dp_run X (d + 5 + 1) 40 [.ref 0, .int x] n M o Q := by
  apply k_run
  intro K hK
  rw [mL_40]
  show K 0 [some (.ref 0), some (.int x)] [] n 0 0 M o
  refine k_iload_n hK ti_40_0 rfl ?_
  refine k_if_lt hK ti_40_1 jt_1_14 (fun c_1 => ?_) (fun c_1 => ?_)
  · have e := ix_neg (n := g_nA s) c_1
    refine k_throw hK 0 ti_40_15 ow_40 rfl (by decide) mc_40 ms_40 (by omega) (Nat.le_of_ble_eq_true rfl) (Nat.le_of_ble_eq_true rfl) (Nat.le_of_ble_eq_true rfl) ?_
    exact h0 e
  · refine k_iload_n hK ti_40_4 rfl ?_
    refine k_aload_n hK ti_40_5 rfl ?_
    refine k_get hK ti_40_6 ow_40 fd_3_10 (by omega) rfl rfl ?_
    refine k_geti hK (nI (g_nA s)) ti_40_9 ow_40 fd_3_50 (by omega) rfl rfl hC.nA ?_
    refine k_icmp_lt hK ti_40_12 jt_12_13 (fun c_12 => ?_) (fun c_12 => ?_)
    · have e : (ix (g_nA s) x).isSome = true := by rw [ix_is c_1 c_12]; rfl
      refine k_return hK ti_40_25 rk_40 mc_40 ms_40 (Nat.le_of_ble_eq_true rfl) (Nat.le_of_ble_eq_true rfl) ?_
      exact h1 e
    · have e := ix_big (n := g_nA s) c_12
      refine k_throw hK 0 ti_40_15 ow_40 rfl (by decide) mc_40 ms_40 (by omega) (Nat.le_of_ble_eq_true rfl) (Nat.le_of_ble_eq_true rfl) (Nat.le_of_ble_eq_true rfl) ?_
      exact h0 e

set_option maxRecDepth 100000 in
set_option maxHeartbeats 4000000 in
theorem sp_X3_checkClient {X : dp_X} {d n : Nat} {M : dp_M} {o : dp_O} {Q : dp_Q} (h65 : 65 ≤ n) {s : GSt} (x : Int32) (hC : CG M s) (h1 : (ix (g_nC s) x).isSome = true → Q (.inl none) M o) (h0 : ix (g_nC s) x = none → Q (.inr 0) M o) : dp_run X (d + 5 + 1) 41 [.ref 0, .int x] n M o Q := by
  apply k_run
  intro K hK
  rw [mL_41]
  show K 0 [some (.ref 0), some (.int x)] [] n 0 0 M o
  refine k_iload_n hK ti_41_0 rfl ?_
  refine k_if_lt hK ti_41_1 jt_1_14 (fun c_1 => ?_) (fun c_1 => ?_)
  · have e := ix_neg (n := g_nC s) c_1
    refine k_throw hK 0 ti_41_15 ow_41 rfl (by decide) mc_41 ms_41 (by omega) (Nat.le_of_ble_eq_true rfl) (Nat.le_of_ble_eq_true rfl) (Nat.le_of_ble_eq_true rfl) ?_
    exact h0 e
  · refine k_iload_n hK ti_41_4 rfl ?_
    refine k_aload_n hK ti_41_5 rfl ?_
    refine k_get hK ti_41_6 ow_41 fd_3_19 (by omega) rfl rfl ?_
    refine k_geti hK (nI (g_nC s)) ti_41_9 ow_41 fd_3_86 (by omega) rfl rfl hC.nC ?_
    refine k_icmp_lt hK ti_41_12 jt_12_13 (fun c_12 => ?_) (fun c_12 => ?_)
    · have e : (ix (g_nC s) x).isSome = true := by rw [ix_is c_1 c_12]; rfl
      refine k_return hK ti_41_25 rk_41 mc_41 ms_41 (Nat.le_of_ble_eq_true rfl) (Nat.le_of_ble_eq_true rfl) ?_
      exact h1 e
    · have e := ix_big (n := g_nC s) c_12
      refine k_throw hK 0 ti_41_15 ow_41 rfl (by decide) mc_41 ms_41 (by omega) (Nat.le_of_ble_eq_true rfl) (Nat.le_of_ble_eq_true rfl) (Nat.le_of_ble_eq_true rfl) ?_
      exact h0 e

set_option maxRecDepth 100000 in
set_option maxHeartbeats 4000000 in
theorem sp_X3_checkPlace {X : dp_X} {d n : Nat} {M : dp_M} {o : dp_O} {Q : dp_Q} (h65 : 65 ≤ n) (x : Int32) (m : Nat) (h1 : (ix (m) x).isSome = true → Q (.inl none) M o) (h0 : ix (m) x = none → Q (.inr 0) M o) : dp_run X (d + 5 + 1) 42 [.int x, .int (nI m)] n M o Q := by
  apply k_run
  intro K hK
  rw [mL_42]
  show K 0 [some (.int x), some (.int (nI m))] [] n 0 0 M o
  refine k_iload_n hK ti_42_0 rfl ?_
  refine k_if_lt hK ti_42_1 jt_1_8 (fun c_1 => ?_) (fun c_1 => ?_)
  · have e := ix_neg (n := m) c_1
    refine k_throw hK 0 ti_42_9 ow_42 rfl (by decide) mc_42 ms_42 (by omega) (Nat.le_of_ble_eq_true rfl) (Nat.le_of_ble_eq_true rfl) (Nat.le_of_ble_eq_true rfl) ?_
    exact h0 e
  · refine k_iload_n hK ti_42_4 rfl ?_
    refine k_iload_n hK ti_42_5 rfl ?_
    refine k_icmp_lt hK ti_42_6 jt_6_13 (fun c_6 => ?_) (fun c_6 => ?_)
    · have e : (ix (m) x).isSome = true := by rw [ix_is c_1 c_6]; rfl
      refine k_return hK ti_42_19 rk_42 mc_42 ms_42 (Nat.le_of_ble_eq_true rfl) (Nat.le_of_ble_eq_true rfl) ?_
      exact h1 e
    · have e := ix_big (n := m) c_6
      refine k_throw hK 0 ti_42_9 ow_42 rfl (by decide) mc_42 ms_42 (by omega) (Nat.le_of_ble_eq_true rfl) (Nat.le_of_ble_eq_true rfl) (Nat.le_of_ble_eq_true rfl) ?_
      exact h0 e

set_option maxRecDepth 100000 in
set_option maxHeartbeats 4000000 in
theorem sp_X3_checkWhat {X : dp_X} {d n : Nat} {M : dp_M} {o : dp_O} {Q : dp_Q} (h65 : 65 ≤ n) (x : Int32) (m : Nat) (h1 : (ix (m) x).isSome = true → Q (.inl none) M o) (h0 : ix (m) x = none → Q (.inr 0) M o) : dp_run X (d + 5 + 1) 43 [.int x, .int (nI m)] n M o Q := by
  apply k_run
  intro K hK
  rw [mL_43]
  show K 0 [some (.int x), some (.int (nI m))] [] n 0 0 M o
  refine k_iload_n hK ti_43_0 rfl ?_
  refine k_if_lt hK ti_43_1 jt_1_8 (fun c_1 => ?_) (fun c_1 => ?_)
  · have e := ix_neg (n := m) c_1
    refine k_throw hK 0 ti_43_9 ow_43 rfl (by decide) mc_43 ms_43 (by omega) (Nat.le_of_ble_eq_true rfl) (Nat.le_of_ble_eq_true rfl) (Nat.le_of_ble_eq_true rfl) ?_
    exact h0 e
  · refine k_iload_n hK ti_43_4 rfl ?_
    refine k_iload_n hK ti_43_5 rfl ?_
    refine k_icmp_lt hK ti_43_6 jt_6_13 (fun c_6 => ?_) (fun c_6 => ?_)
    · have e : (ix (m) x).isSome = true := by rw [ix_is c_1 c_6]; rfl
      refine k_return hK ti_43_19 rk_43 mc_43 ms_43 (Nat.le_of_ble_eq_true rfl) (Nat.le_of_ble_eq_true rfl) ?_
      exact h1 e
    · have e := ix_big (n := m) c_6
      refine k_throw hK 0 ti_43_9 ow_43 rfl (by decide) mc_43 ms_43 (by omega) (Nat.le_of_ble_eq_true rfl) (Nat.le_of_ble_eq_true rfl) (Nat.le_of_ble_eq_true rfl) ?_
      exact h0 e

set_option maxRecDepth 100000 in
set_option maxHeartbeats 4000000 in
theorem sp_X3_checkRounds {X : dp_X} {d n : Nat} {M : dp_M} {o : dp_O} {Q : dp_Q} (h65 : 65 ≤ n) (x : Int32) (h1 : isin x (nI 1) (nI 30) = true → Q (.inl none) M o) (h0 : isin x (nI 1) (nI 30) = false → Q (.inr 2) M o) : dp_run X (d + 5 + 1) 44 [.int x] n M o Q := by
  apply k_run
  intro K hK
  rw [mL_44]
  show K 0 [some (.int x)] [] n 0 0 M o
  refine k_iload_n hK ti_44_0 rfl ?_
  refine k_iconst hK ti_44_1 kI_1 ?_
  refine k_icmp_lt hK ti_44_2 jt_2_9 (fun c_2 => ?_) (fun c_2 => ?_)
  · have e : isin x (nI 1) (nI 30) = false := by simp [isin, c_2]
    refine k_throw hK 2 ti_44_11 ow_44 rfl (by decide) mc_44 ms_44 (by omega) (Nat.le_of_ble_eq_true rfl) (Nat.le_of_ble_eq_true rfl) (Nat.le_of_ble_eq_true rfl) ?_
    exact h0 e
  · refine k_iload_n hK ti_44_5 rfl ?_
    refine k_bipush hK ti_44_6 kB_30 ?_
    refine k_icmp_le hK ti_44_8 jt_8_13 (fun c_8 => ?_) (fun c_8 => ?_)
    · have e : isin x (nI 1) (nI 30) = false := by simp [isin, c_8]
      refine k_throw hK 2 ti_44_11 ow_44 rfl (by decide) mc_44 ms_44 (by omega) (Nat.le_of_ble_eq_true rfl) (Nat.le_of_ble_eq_true rfl) (Nat.le_of_ble_eq_true rfl) ?_
      exact h0 e
    · have e : isin x (nI 1) (nI 30) = true := by simp [isin, c_2, c_8]
      refine k_return hK ti_44_21 rk_44 mc_44 ms_44 (Nat.le_of_ble_eq_true rfl) (Nat.le_of_ble_eq_true rfl) ?_
      exact h1 e
