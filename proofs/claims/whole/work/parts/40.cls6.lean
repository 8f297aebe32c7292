/-! The class: copies, a stem tried, its checks, taking out of a row. (written by wip/whole/cls6.py) -/
set_option maxRecDepth 100000 in
set_option maxHeartbeats 4000000 in
theorem sp_X0_copyFrom {X : dp_X} {d n : Nat} {M : dp_M} {o : Int64} {Q : dp_Q} (h65 : 65 ≤ n) (h : Q (.inl none) (cpf M) o) : dp_run X (d + 0 + 1) 0 [.ref 4, .ref 3] n M o Q := by
  apply k_run
  intro K hK
  rw [mL_0]
  show K 0 [some (.ref 4), some (.ref 3)] [] n 0 0 M o
  refine k_aload_n hK ti_0_0 rfl ?_
  refine k_get hK ti_0_1 ow_0 fd_0_9 (by omega) rfl rfl ?_
  refine k_iconst hK ti_0_4 kI_0 ?_
  refine k_aload_n hK ti_0_5 rfl ?_
  refine k_get hK ti_0_6 ow_0 fd_0_9 (by omega) rfl rfl ?_
  refine k_iconst hK ti_0_9 kI_0 ?_
  refine k_bipush hK ti_0_10 kB_16 ?_
  refine k_copy hK 0 0 16 ti_0_12 ow_0 nt_0_24 (Nat.le_of_ble_eq_true rfl) rfl rfl (by omega) (by omega) rfl rfl rfl (by rw [dpl_14]; omega) (by rw [dpl_18]; omega) ?_
  refine k_aload_n hK ti_0_15 rfl ?_
  refine k_get hK ti_0_16 ow_0 fd_0_15 (by omega) rfl rfl ?_
  refine k_iconst hK ti_0_19 kI_0 ?_
  refine k_aload_n hK ti_0_20 rfl ?_
  refine k_get hK ti_0_21 ow_0 fd_0_15 (by omega) rfl rfl ?_
  refine k_iconst hK ti_0_24 kI_0 ?_
  refine k_bipush hK ti_0_25 kB_6 ?_
  refine k_copy hK 0 0 6 ti_0_27 ow_0 nt_0_24 (Nat.le_of_ble_eq_true rfl) rfl rfl (by omega) (by omega) rfl rfl rfl (by rw [dpl_15]; omega) (by rw [dpl_19]; omega) ?_
  refine k_aload_n hK ti_0_30 rfl ?_
  refine k_get hK ti_0_31 ow_0 fd_0_18 (by omega) rfl rfl ?_
  refine k_iconst hK ti_0_34 kI_0 ?_
  refine k_aload_n hK ti_0_35 rfl ?_
  refine k_get hK ti_0_36 ow_0 fd_0_18 (by omega) rfl rfl ?_
  refine k_iconst hK ti_0_39 kI_0 ?_
  refine k_bipush hK ti_0_40 kB_6 ?_
  refine k_copy hK 0 0 6 ti_0_42 ow_0 nt_0_24 (Nat.le_of_ble_eq_true rfl) rfl rfl (by omega) (by omega) rfl rfl rfl (by rw [dpl_16]; omega) (by rw [dpl_20]; omega) ?_
  refine k_aload_n hK ti_0_45 rfl ?_
  refine k_get hK ti_0_46 ow_0 fd_0_21 (by omega) rfl rfl ?_
  refine k_iconst hK ti_0_49 kI_0 ?_
  refine k_aload_n hK ti_0_50 rfl ?_
  refine k_get hK ti_0_51 ow_0 fd_0_21 (by omega) rfl rfl ?_
  refine k_iconst hK ti_0_54 kI_0 ?_
  refine k_bipush hK ti_0_55 kB_6 ?_
  refine k_copy hK 0 0 6 ti_0_57 ow_0 nt_0_24 (Nat.le_of_ble_eq_true rfl) rfl rfl (by omega) (by omega) rfl rfl rfl (by rw [dpl_17]; omega) (by rw [dpl_21]; omega) ?_
  refine k_aload_n hK ti_0_60 rfl ?_
  refine k_aload_n hK ti_0_61 rfl ?_
  refine k_get hK ti_0_62 ow_0 fd_0_30 (by omega) rfl rfl ?_
  refine k_put hK ti_0_65 ow_0 fd_0_30 (by omega) rfl rfl ?_
  refine k_return hK ti_0_68 rk_0 mc_0 ms_0 (Nat.le_of_ble_eq_true rfl) (Nat.le_of_ble_eq_true rfl) ?_
  exact h

set_option maxRecDepth 100000 in
set_option maxHeartbeats 4000000 in
theorem sp_X3_topScoreWith {X : dp_X} {d n : Nat} {M : dp_M} {o : Int64} {Q : dp_Q} (h65 : 65 ≤ n) {s : GSt} {l : LSt} (c x : Nat) (hC : CG M s) (hN : CLn M l) (hc : c < g_nC s) (hx : x < 20) (h : ∀ M', Fr w5 M M' → Q (.inl (some (.int (tpw s l c x)))) M' o) : dp_run X (d + 2 + 1) 62 [.ref 0, .int (nI c), .int (nI x)] n M o Q := by
  apply k_run
  intro K hK
  rw [mL_62]
  show K 0 [some (.ref 0), some (.int (nI c)), some (.int (nI x)), none, none, none, none] [] n 0 0 M o
  have hA16 := hC.w.1
  have hC6 := hC.w.2.1
  have hm5 := hC.w.2.2.2.2.2.1 c (by omega)
  refine k_aload_n hK ti_62_0 rfl ?_
  refine k_get hK ti_62_1 ow_62 fd_3_19 (by omega) rfl rfl ?_
  refine k_get hK ti_62_4 ow_62 fd_3_97 (by omega) rfl rfl ?_
  refine k_iload_n hK ti_62_7 rfl ?_
  refine k_ialdv (v := (nI (g_many s c))) hK c ti_62_8 rfl (by omega) (by omega) rfl (by rw [dpl_12]; omega) (hC.many c (by omega)) ?_
  refine k_istore_n hK (L' := [some (.ref 0), some (.int _), some (.int _), some (.int _), none, none, none]) ti_62_9 rfl ?_
  refine k_iload_n hK ti_62_10 rfl ?_
  refine k_iconst hK ti_62_11 kI_5 ?_
  refine kn_ge hK (by omega) (by omega) ti_62_12 jt_12_16 (fun c_12 => ?_) (fun c_12 => ?_)
  · refine k_aload_n hK ti_62_15 rfl ?_
    refine k_get hK ti_62_16 ow_62 fd_3_19 (by omega) rfl rfl ?_
    refine k_iload_n hK ti_62_19 rfl ?_
    refine k_iload_n hK ti_62_20 rfl ?_
    refine k_callV hK (as := [.int _, .int _]) (st' := []) ti_62_21 ow_62 iv_3_102 mc_62 ms_62 rfl rfl (by omega) (Nat.le_of_ble_eq_true rfl) (Nat.le_of_ble_eq_true rfl) (Nat.le_of_ble_eq_true rfl) (Nat.le_of_ble_eq_true rfl) (by omega) rfl ?_
    refine sp_X1_placeOf (by omega) c x hC (by omega) (by omega) ?_
    rcases hwi : wsh s c x with _ | p
    · refine k_iconst hK ti_62_24 kI_m1 ?_
      refine k_icmp_eq hK ti_62_25 jt_25_5 (fun c_25 => ?_) (fun c_25 => ?_)
      · refine k_aload_n hK ti_62_30 rfl ?_
        refine k_get hK ti_62_31 ow_62 fd_3_19 (by omega) rfl rfl ?_
        refine k_get hK ti_62_34 ow_62 fd_3_108 (by omega) rfl rfl ?_
        refine k_iload_n hK ti_62_37 rfl ?_
        refine k_aald11 hK c ti_62_38 (by omega) rfl (by omega) ?_
        refine k_iconst hK ti_62_39 kI_0 ?_
        refine k_aload_n hK ti_62_40 rfl ?_
        refine k_get hK ti_62_41 ow_62 fd_3_33 (by omega) rfl rfl ?_
        refine k_iconst hK ti_62_44 kI_0 ?_
        refine k_iload_n hK ti_62_45 rfl ?_
        refine k_copy hK 0 0 (g_many s c) ti_62_46 ow_62 nt_3_259 (Nat.le_of_ble_eq_true rfl) (dp_isA_t _ (by omega)) rfl (by omega) (by omega) rfl rfl rfl (by rw [dpl_59 _ (by omega)]; omega) (by rw [dpl_5]; omega) ?_
        refine k_aload_n hK ti_62_49 rfl ?_
        refine k_get hK ti_62_50 ow_62 fd_3_33 (by omega) rfl rfl ?_
        refine k_iload_n hK ti_62_53 rfl ?_
        refine k_iload_n hK ti_62_54 rfl ?_
        refine k_iast hK (g_many s c) ti_62_55 rfl (by omega) rfl (by rw [dpl_5]; omega) ?_
        have hw := top_w hC (c := c) (x := x) (by omega) hx c_12
        have hF : Fr w5 M (dp_up (dp_row M 5 (va_cpy (M (59 + c)) (M 5) 0 0 (g_many s c))) 5 (g_many s c) (nI x)) := Fr5
        replace hC := hC.fr5 hF
        replace hN := hN.fr5 hF
        generalize dp_up (dp_row M 5 (va_cpy (M (59 + c)) (M 5) 0 0 (g_many s c))) 5 (g_many s c) (nI x) = M2 at hw hF hC hN ⊢
        have e := tpw_n (l := l) c_12 hwi
        refine k_iconst hK ti_62_56 kI_m1 ?_
        refine k_istore hK (L' := [some (.ref 0), some (.int _), some (.int _), some (.int _), some (.int _), none, none]) ti_62_57 rfl ?_
        refine k_iconst hK ti_62_59 kI_0 ?_
        refine k_istore hK (L' := [some (.ref 0), some (.int _), some (.int _), some (.int _), some (.int _), some (.int _), none]) ti_62_60 rfl ?_
        have loop : ∀ (f i : Nat) (u : Option Value), i ≤ (g_nA s) → (g_nA s) - i < f → K 62 [some (.ref 0), some (.int (nI c)), some (.int (nI x)), some (.int (nI (g_many s c))), some (.int ((bf (adds s c x) l c i).2)), some (.int (nI i)), u] [] n 0 0 M2 o := by
          intro f
          induction f with
          | zero => intro i u h1 h2; omega
          | succ f ih =>
            intro i u h1 h2
            refine k_iload hK ti_62_62 rfl ?_
            refine k_aload_n hK ti_62_64 rfl ?_
            refine k_get hK ti_62_65 ow_62 fd_3_10 (by omega) rfl rfl ?_
            refine k_geti hK (nI (g_nA s)) ti_62_68 ow_62 fd_3_50 (by omega) rfl rfl hC.nA ?_
            refine kn_ge hK (by omega) (by omega) ti_62_71 jt_71_62 (fun c_71 => ?_) (fun c_71 => ?_)
            · refine k_aload_n hK ti_62_74 rfl ?_
              refine k_get hK ti_62_75 ow_62 fd_3_10 (by omega) rfl rfl ?_
              refine k_iload hK ti_62_78 rfl ?_
              refine k_aload_n hK ti_62_80 rfl ?_
              refine k_get hK ti_62_81 ow_62 fd_3_33 (by omega) rfl rfl ?_
              refine k_iload_n hK ti_62_84 rfl ?_
              refine k_iconst hK ti_62_85 kI_1 ?_
              refine k_iadd hK (z := (nI (g_many s c + 1))) ti_62_86 (nI_add _ _) ?_
              refine k_aload_n hK ti_62_87 rfl ?_
              refine k_get hK ti_62_88 ow_62 fd_3_26 (by omega) rfl rfl ?_
              refine k_get hK ti_62_91 ow_62 fd_3_217 (by omega) rfl rfl ?_
              refine k_iload hK ti_62_94 rfl ?_
              refine k_ialdv (v := (l_age l i)) hK i ti_62_96 rfl (by omega) (by omega) rfl (by rw [dpl_14]; omega) (hN.2.1 i (by omega)) ?_
              refine k_callV hK (as := [.int _, .ref 5, .int _, .int _]) (st' := []) ti_62_97 ow_62 iv_3_243 mc_62 ms_62 rfl rfl (by omega) (Nat.le_of_ble_eq_true rfl) (Nat.le_of_ble_eq_true rfl) (Nat.le_of_ble_eq_true rfl) (Nat.le_of_ble_eq_true rfl) (by omega) rfl ?_
              refine sp_X2_scoreOf (by omega) i 5 (g_wish (adds s c x) c) (g_many s c + 1) (l_age l i) hC (by omega) (by omega) rfl (by omega) (by rw [dpl_5]; omega) hw (k_aftv (sc (adds s c x) l c i) sc_adds.symm ?_)
              refine k_istore hK (L' := [some (.ref 0), some (.int _), some (.int _), some (.int _), some (.int _), some (.int _), some (.int _)]) ti_62_100 rfl ?_
              refine k_aload_n hK ti_62_102 rfl ?_
              refine k_aload_n hK ti_62_103 rfl ?_
              refine k_get hK ti_62_104 ow_62 fd_3_26 (by omega) rfl rfl ?_
              refine k_iload_n hK ti_62_107 rfl ?_
              refine k_iload hK ti_62_108 rfl ?_
              refine k_iload hK ti_62_110 rfl ?_
              refine k_callV hK (as := [.ref 3, .int _, .int _, .int _]) (st' := []) ti_62_112 ow_62 iv_3_251 mc_62 ms_62 rfl rfl (by omega) (Nat.le_of_ble_eq_true rfl) (Nat.le_of_ble_eq_true rfl) (Nat.le_of_ble_eq_true rfl) (Nat.le_of_ble_eq_true rfl) (by omega) rfl ?_
              refine sp_X3_isFit_n (by omega) c i ((sc (adds s c x) l c i)) hC hN (by omega) (by omega) (k_aftv (bl (fit (adds s c x) l c i)) (congrArg bl (Bool.and_comm _ _)) ?_)
              refine kb_eq hK ti_62_115 jt_115_12 (fun c_115 => ?_) (fun c_115 => ?_)
              · · refine k_eq (L' := [some (.ref 0), some (.int (nI c)), some (.int (nI x)), some (.int (nI (g_many s c))), some (.int ((bf (adds s c x) l c (i + 1)).2)), some (.int (nI i)), some (.int (sc (adds s c x) l c i))]) ?_ (by simp only [bf_no c_115]) rfl rfl
                  refine k_iinc hK (L' := [some (.ref 0), some (.int _), some (.int _), some (.int _), some (.int _), some (.int (nI (i + 1))), some (.int _)]) ti_62_127 rfl (by rw [kI_1, nI_add]) rfl ?_
                  refine k_goto hK ti_62_130 jt_130_m68 ?_
                  exact ih (i + 1) _ (by omega) (by omega) 
              · refine k_iload hK ti_62_118 rfl ?_
                refine k_iload hK ti_62_120 rfl ?_
                refine k_maxv hK ((bf (adds s c x) l c (i + 1)).2) ti_62_122 ow_62 nt_3_265 mc_62 ms_62 (Nat.le_of_ble_eq_true rfl) (Nat.le_of_ble_eq_true rfl) (Nat.le_of_ble_eq_true rfl) (bf_max c_115) ?_
                refine k_istore hK (L' := [some (.ref 0), some (.int _), some (.int _), some (.int _), some (.int _), some (.int _), some (.int _)]) ti_62_125 rfl ?_
                refine k_iinc hK (L' := [some (.ref 0), some (.int _), some (.int _), some (.int _), some (.int _), some (.int (nI (i + 1))), some (.int _)]) ti_62_127 rfl (by rw [kI_1, nI_add]) rfl ?_
                refine k_goto hK ti_62_130 jt_130_m68 ?_
                exact ih (i + 1) _ (by omega) (by omega) 
            · obtain rfl : i = (g_nA s) := by omega
              refine k_iload hK ti_62_133 rfl ?_
              refine k_ireturn hK ti_62_135 rk_62 mc_62 ms_62 (Nat.le_of_ble_eq_true rfl) (Nat.le_of_ble_eq_true rfl) ?_
              have h := h M2 hF
              rw [e] at h
              exact h
        exact loop ((g_nA s) - 0 + 1) 0 _ (by omega) (by omega) 
      · exact absurd rfl c_25
    · have hp := (frst_some hwi).1
      have e : tpw s l c x = -1 := tpw_w hwi
      refine k_iconst hK ti_62_24 kI_m1 ?_
      refine k_icmp_eq hK ti_62_25 jt_25_5 (fun c_25 => ?_) (fun c_25 => ?_)
      · exact absurd c_25 (nI_nm1 (by omega))
      · refine k_iconst hK ti_62_28 kI_m1 ?_
        refine k_ireturn hK ti_62_29 rk_62 mc_62 ms_62 (Nat.le_of_ble_eq_true rfl) (Nat.le_of_ble_eq_true rfl) ?_
        have h := h M (Fr.refl _ _)
        rw [e] at h
        exact h
  · have e : tpw s l c x = -1 := if_pos (by omega)
    refine k_iconst hK ti_62_28 kI_m1 ?_
    refine k_ireturn hK ti_62_29 rk_62 mc_62 ms_62 (Nat.le_of_ble_eq_true rfl) (Nat.le_of_ble_eq_true rfl) ?_
    have h := h M (Fr.refl _ _)
    rw [e] at h
    exact h

set_option maxRecDepth 100000 in
set_option maxHeartbeats 4000000 in
theorem sp_X3_removeAt {X : dp_X} {d n : Nat} {M : dp_M} {o : Int64} {Q : dp_Q} (h65 : 65 ≤ n) (hd m p : Nat) (hA : dp_isA hd = true) (hh : hd < 65) (hl : m ≤ dp_len hd) (hp : p < m) (hm : m ≤ 12) (h : ∀ M', (∀ k, k + 1 < m → M' hd k = if p ≤ k then M hd (k + 1) else M hd k) → (∀ b k, b ≠ hd → M' b k = M b k) → Q (.inl (some (.int (nI (m - 1))))) M' o) : dp_run X (d + 0 + 1) 67 [.ref hd, .int (nI m), .int (nI p)] n M o Q := by
  apply k_run
  intro K hK
  rw [mL_67]
  show K 0 [some (.ref hd), some (.int (nI m)), some (.int (nI p)), none] [] n 0 0 M o
  refine k_iload_n hK ti_67_0 rfl ?_
  refine k_istore_n hK (L' := [some (.ref hd), some (.int _), some (.int _), some (.int _)]) ti_67_1 rfl ?_
  have loop : ∀ (f i : Nat) (M' : dp_M), i ≤ (m - 1) → (m - 1) - i < f → (p ≤ i) → (∀ k, M' hd k = if p ≤ k ∧ k < i then M hd (k + 1) else M hd k) → (∀ b k, b ≠ hd → M' b k = M b k) → K 2 [some (.ref hd), some (.int (nI m)), some (.int (nI p)), some (.int (nI i))] [] n 0 0 M' o := by
    intro f
    induction f with
    | zero => intro i M' h1 h2; omega
    | succ f ih =>
      intro i M' h1 h2 h5 h3 h4
      refine k_iload_n hK ti_67_2 rfl ?_
      refine k_iconst hK ti_67_3 kI_1 ?_
      refine k_iadd hK (z := (nI (i + 1))) ti_67_4 (nI_add _ _) ?_
      refine k_iload_n hK ti_67_5 rfl ?_
      refine kn_ge hK (by omega) (by omega) ti_67_6 jt_6_17 (fun c_6 => ?_) (fun c_6 => ?_)
      · refine k_aload_n hK ti_67_9 rfl ?_
        refine k_iload_n hK ti_67_10 rfl ?_
        refine k_aload_n hK ti_67_11 rfl ?_
        refine k_iload_n hK ti_67_12 rfl ?_
        refine k_iconst hK ti_67_13 kI_1 ?_
        refine k_iadd hK (z := (nI (i + 1))) ti_67_14 (nI_add _ _) ?_
        refine k_ialdv (v := (M hd (i + 1))) hK (i + 1) ti_67_15 hA (by omega) (by omega) rfl (by omega) ((h3 (i + 1)).trans (if_neg (by omega))) ?_
        refine k_iast hK i ti_67_16 hA (by omega) rfl (by omega) ?_
        refine k_iinc hK (L' := [some (.ref hd), some (.int _), some (.int _), some (.int (nI (i + 1)))]) ti_67_17 rfl (by rw [kI_1, nI_add]) rfl ?_
        refine k_goto hK ti_67_20 jt_20_m18 ?_
        exact ih (i + 1) _ (by omega) (by omega) (by omega) (fun k => by by_cases e : k = i; (subst e; rw [dp_up_s, if_pos ⟨h5, by omega⟩]); rw [dp_up_k e, h3 k]; by_cases e2 : p ≤ k ∧ k < i; (rw [if_pos e2, if_pos ⟨e2.1, by omega⟩]); rw [if_neg e2, if_neg (by omega)]) (fun b k e => by rw [dp_up_h e]; exact h4 b k e)
      · obtain rfl : i = m - 1 := by omega
        refine k_iload_n hK ti_67_23 rfl ?_
        refine k_iconst hK ti_67_24 kI_1 ?_
        refine k_isub hK (z := (nI (m - 1))) ti_67_25 (pk_sub (by omega)) ?_
        refine k_ireturn hK ti_67_26 rk_67 mc_67 ms_67 (Nat.le_of_ble_eq_true rfl) (Nat.le_of_ble_eq_true rfl) ?_
        exact h M' (fun k hk => by rw [h3 k]; by_cases e : p ≤ k <;> simp [e] <;> omega) h4
  exact loop ((m - 1) - p + 1) p _ (by omega) (by omega) (Nat.le_refl _) (fun k => (if_neg (by omega)).symm) (fun _ _ _ => rfl)

set_option maxRecDepth 100000 in
set_option maxHeartbeats 4000000 in
theorem sp_X3_checkWord {X : dp_X} {d n : Nat} {M : dp_M} {o : Int64} {Q : dp_Q} (h65 : 65 ≤ n) (x : Int32) (h1 : (ix (40) x).isSome = true → Q (.inl none) M o) (h0 : ix (40) x = none → Q (.inr 0) M o) : dp_run X (d + 5 + 1) 46 [.int x] n M o Q := by
  apply k_run
  intro K hK
  rw [mL_46]
  show K 0 [some (.int x)] [] n 0 0 M o
  refine k_iload_n hK ti_46_0 rfl ?_
  refine k_if_lt hK ti_46_1 jt_1_9 (fun c_1 => ?_) (fun c_1 => ?_)
  · have e := ix_neg (n := 40) c_1
    refine k_throw hK 0 ti_46_10 ow_46 rfl (by decide) mc_46 ms_46 (by omega) (Nat.le_of_ble_eq_true rfl) (Nat.le_of_ble_eq_true rfl) (Nat.le_of_ble_eq_true rfl) ?_
    exact h0 e
  · refine k_iload_n hK ti_46_4 rfl ?_
    refine k_bipush hK ti_46_5 kB_40 ?_
    refine k_icmp_lt hK ti_46_7 jt_7_13 (fun c_7 => ?_) (fun c_7 => ?_)
    · have e : (ix (40) x).isSome = true := by rw [ix_is c_1 c_7]; rfl
      refine k_return hK ti_46_20 rk_46 mc_46 ms_46 (Nat.le_of_ble_eq_true rfl) (Nat.le_of_ble_eq_true rfl) ?_
      exact h1 e
    · have e := ix_big (n := 40) c_7
      refine k_throw hK 0 ti_46_10 ow_46 rfl (by decide) mc_46 ms_46 (by omega) (Nat.le_of_ble_eq_true rfl) (Nat.le_of_ble_eq_true rfl) (Nat.le_of_ble_eq_true rfl) ?_
      exact h0 e

set_option maxRecDepth 100000 in
set_option maxHeartbeats 4000000 in
theorem sp_X3_checkStem {X : dp_X} {d n : Nat} {M : dp_M} {o : Int64} {Q : dp_Q} (h65 : 65 ≤ n) (x : Int32) (h1 : (ix (20) x).isSome = true → Q (.inl none) M o) (h0 : ix (20) x = none → Q (.inr 0) M o) : dp_run X (d + 5 + 1) 47 [.int x] n M o Q := by
  apply k_run
  intro K hK
  rw [mL_47]
  show K 0 [some (.int x)] [] n 0 0 M o
  refine k_iload_n hK ti_47_0 rfl ?_
  refine k_if_lt hK ti_47_1 jt_1_9 (fun c_1 => ?_) (fun c_1 => ?_)
  · have e := ix_neg (n := 20) c_1
    refine k_throw hK 0 ti_47_10 ow_47 rfl (by decide) mc_47 ms_47 (by omega) (Nat.le_of_ble_eq_true rfl) (Nat.le_of_ble_eq_true rfl) (Nat.le_of_ble_eq_true rfl) ?_
    exact h0 e
  · refine k_iload_n hK ti_47_4 rfl ?_
    refine k_bipush hK ti_47_5 kB_20 ?_
    refine k_icmp_lt hK ti_47_7 jt_7_13 (fun c_7 => ?_) (fun c_7 => ?_)
    · have e : (ix (20) x).isSome = true := by rw [ix_is c_1 c_7]; rfl
      refine k_return hK ti_47_20 rk_47 mc_47 ms_47 (Nat.le_of_ble_eq_true rfl) (Nat.le_of_ble_eq_true rfl) ?_
      exact h1 e
    · have e := ix_big (n := 20) c_7
      refine k_throw hK 0 ti_47_10 ow_47 rfl (by decide) mc_47 ms_47 (by omega) (Nat.le_of_ble_eq_true rfl) (Nat.le_of_ble_eq_true rfl) (Nat.le_of_ble_eq_true rfl) ?_
      exact h0 e

set_option maxRecDepth 100000 in
set_option maxHeartbeats 4000000 in
theorem sp_X3_checkArticle {X : dp_X} {d n : Nat} {M : dp_M} {o : Int64} {Q : dp_Q} (h65 : 65 ≤ n) {s : GSt} (x : Int32) (hC : CG M s) (h1 : (ix (g_nA s) x).isSome = true → Q (.inl none) M o) (h0 : ix (g_nA s) x = none → Q (.inr 0) M o) : dp_run X (d + 5 + 1) 48 [.ref 0, .int x] n M o Q := by
  apply k_run
  intro K hK
  rw [mL_48]
  show K 0 [some (.ref 0), some (.int x)] [] n 0 0 M o
  refine k_iload_n hK ti_48_0 rfl ?_
  refine k_if_lt hK ti_48_1 jt_1_14 (fun c_1 => ?_) (fun c_1 => ?_)
  · have e := ix_neg (n := g_nA s) c_1
    refine k_throw hK 0 ti_48_15 ow_48 rfl (by decide) mc_48 ms_48 (by omega) (Nat.le_of_ble_eq_true rfl) (Nat.le_of_ble_eq_true rfl) (Nat.le_of_ble_eq_true rfl) ?_
    exact h0 e
  · refine k_iload_n hK ti_48_4 rfl ?_
    refine k_aload_n hK ti_48_5 rfl ?_
    refine k_get hK ti_48_6 ow_48 fd_3_10 (by omega) rfl rfl ?_
    refine k_geti hK (nI (g_nA s)) ti_48_9 ow_48 fd_3_50 (by omega) rfl rfl hC.nA ?_
    refine k_icmp_lt hK ti_48_12 jt_12_13 (fun c_12 => ?_) (fun c_12 => ?_)
    · have e : (ix (g_nA s) x).isSome = true := by rw [ix_is c_1 c_12]; rfl
      refine k_return hK ti_48_25 rk_48 mc_48 ms_48 (Nat.le_of_ble_eq_true rfl) (Nat.le_of_ble_eq_true rfl) ?_
      exact h1 e
    · have e := ix_big (n := g_nA s) c_12
      refine k_throw hK 0 ti_48_15 ow_48 rfl (by decide) mc_48 ms_48 (by omega) (Nat.le_of_ble_eq_true rfl) (Nat.le_of_ble_eq_true rfl) (Nat.le_of_ble_eq_true rfl) ?_
      exact h0 e

set_option maxRecDepth 100000 in
set_option maxHeartbeats 4000000 in
theorem sp_X3_checkClient {X : dp_X} {d n : Nat} {M : dp_M} {o : Int64} {Q : dp_Q} (h65 : 65 ≤ n) {s : GSt} (x : Int32) (hC : CG M s) (h1 : (ix (g_nC s) x).isSome = true → Q (.inl none) M o) (h0 : ix (g_nC s) x = none → Q (.inr 0) M o) : dp_run X (d + 5 + 1) 49 [.ref 0, .int x] n M o Q := by
  apply k_run
  intro K hK
  rw [mL_49]
  show K 0 [some (.ref 0), some (.int x)] [] n 0 0 M o
  refine k_iload_n hK ti_49_0 rfl ?_
  refine k_if_lt hK ti_49_1 jt_1_14 (fun c_1 => ?_) (fun c_1 => ?_)
  · have e := ix_neg (n := g_nC s) c_1
    refine k_throw hK 0 ti_49_15 ow_49 rfl (by decide) mc_49 ms_49 (by omega) (Nat.le_of_ble_eq_true rfl) (Nat.le_of_ble_eq_true rfl) (Nat.le_of_ble_eq_true rfl) ?_
    exact h0 e
  · refine k_iload_n hK ti_49_4 rfl ?_
    refine k_aload_n hK ti_49_5 rfl ?_
    refine k_get hK ti_49_6 ow_49 fd_3_19 (by omega) rfl rfl ?_
    refine k_geti hK (nI (g_nC s)) ti_49_9 ow_49 fd_3_86 (by omega) rfl rfl hC.nC ?_
    refine k_icmp_lt hK ti_49_12 jt_12_13 (fun c_12 => ?_) (fun c_12 => ?_)
    · have e : (ix (g_nC s) x).isSome = true := by rw [ix_is c_1 c_12]; rfl
      refine k_return hK ti_49_25 rk_49 mc_49 ms_49 (Nat.le_of_ble_eq_true rfl) (Nat.le_of_ble_eq_true rfl) ?_
      exact h1 e
    · have e := ix_big (n := g_nC s) c_12
      refine k_throw hK 0 ti_49_15 ow_49 rfl (by decide) mc_49 ms_49 (by omega) (Nat.le_of_ble_eq_true rfl) (Nat.le_of_ble_eq_true rfl) (Nat.le_of_ble_eq_true rfl) ?_
      exact h0 e

set_option maxRecDepth 100000 in
set_option maxHeartbeats 4000000 in
theorem sp_X3_checkPlace {X : dp_X} {d n : Nat} {M : dp_M} {o : Int64} {Q : dp_Q} (h65 : 65 ≤ n) (x : Int32) (m : Nat) (h1 : (ix (m) x).isSome = true → Q (.inl none) M o) (h0 : ix (m) x = none → Q (.inr 0) M o) : dp_run X (d + 5 + 1) 50 [.int x, .int (nI m)] n M o Q := by
  apply k_run
  intro K hK
  rw [mL_50]
  show K 0 [some (.int x), some (.int (nI m))] [] n 0 0 M o
  refine k_iload_n hK ti_50_0 rfl ?_
  refine k_if_lt hK ti_50_1 jt_1_8 (fun c_1 => ?_) (fun c_1 => ?_)
  · have e := ix_neg (n := m) c_1
    refine k_throw hK 0 ti_50_9 ow_50 rfl (by decide) mc_50 ms_50 (by omega) (Nat.le_of_ble_eq_true rfl) (Nat.le_of_ble_eq_true rfl) (Nat.le_of_ble_eq_true rfl) ?_
    exact h0 e
  · refine k_iload_n hK ti_50_4 rfl ?_
    refine k_iload_n hK ti_50_5 rfl ?_
    refine k_icmp_lt hK ti_50_6 jt_6_13 (fun c_6 => ?_) (fun c_6 => ?_)
    · have e : (ix (m) x).isSome = true := by rw [ix_is c_1 c_6]; rfl
      refine k_return hK ti_50_19 rk_50 mc_50 ms_50 (Nat.le_of_ble_eq_true rfl) (Nat.le_of_ble_eq_true rfl) ?_
      exact h1 e
    · have e := ix_big (n := m) c_6
      refine k_throw hK 0 ti_50_9 ow_50 rfl (by decide) mc_50 ms_50 (by omega) (Nat.le_of_ble_eq_true rfl) (Nat.le_of_ble_eq_true rfl) (Nat.le_of_ble_eq_true rfl) ?_
      exact h0 e

set_option maxRecDepth 100000 in
set_option maxHeartbeats 4000000 in
theorem sp_X3_checkWhat {X : dp_X} {d n : Nat} {M : dp_M} {o : Int64} {Q : dp_Q} (h65 : 65 ≤ n) (x : Int32) (m : Nat) (h1 : (ix (m) x).isSome = true → Q (.inl none) M o) (h0 : ix (m) x = none → Q (.inr 0) M o) : dp_run X (d + 5 + 1) 51 [.int x, .int (nI m)] n M o Q := by
  apply k_run
  intro K hK
  rw [mL_51]
  show K 0 [some (.int x), some (.int (nI m))] [] n 0 0 M o
  refine k_iload_n hK ti_51_0 rfl ?_
  refine k_if_lt hK ti_51_1 jt_1_8 (fun c_1 => ?_) (fun c_1 => ?_)
  · have e := ix_neg (n := m) c_1
    refine k_throw hK 0 ti_51_9 ow_51 rfl (by decide) mc_51 ms_51 (by omega) (Nat.le_of_ble_eq_true rfl) (Nat.le_of_ble_eq_true rfl) (Nat.le_of_ble_eq_true rfl) ?_
    exact h0 e
  · refine k_iload_n hK ti_51_4 rfl ?_
    refine k_iload_n hK ti_51_5 rfl ?_
    refine k_icmp_lt hK ti_51_6 jt_6_13 (fun c_6 => ?_) (fun c_6 => ?_)
    · have e : (ix (m) x).isSome = true := by rw [ix_is c_1 c_6]; rfl
      refine k_return hK ti_51_19 rk_51 mc_51 ms_51 (Nat.le_of_ble_eq_true rfl) (Nat.le_of_ble_eq_true rfl) ?_
      exact h1 e
    · have e := ix_big (n := m) c_6
      refine k_throw hK 0 ti_51_9 ow_51 rfl (by decide) mc_51 ms_51 (by omega) (Nat.le_of_ble_eq_true rfl) (Nat.le_of_ble_eq_true rfl) (Nat.le_of_ble_eq_true rfl) ?_
      exact h0 e

set_option maxRecDepth 100000 in
set_option maxHeartbeats 4000000 in
theorem sp_X3_checkRounds {X : dp_X} {d n : Nat} {M : dp_M} {o : Int64} {Q : dp_Q} (h65 : 65 ≤ n) (x : Int32) (h1 : isin x (nI 1) (nI 30) = true → Q (.inl none) M o) (h0 : isin x (nI 1) (nI 30) = false → Q (.inr 2) M o) : dp_run X (d + 5 + 1) 52 [.int x] n M o Q := by
  apply k_run
  intro K hK
  rw [mL_52]
  show K 0 [some (.int x)] [] n 0 0 M o
  refine k_iload_n hK ti_52_0 rfl ?_
  refine k_iconst hK ti_52_1 kI_1 ?_
  refine k_icmp_lt hK ti_52_2 jt_2_9 (fun c_2 => ?_) (fun c_2 => ?_)
  · have e : isin x (nI 1) (nI 30) = false := by simp [isin, c_2]
    refine k_throw hK 2 ti_52_11 ow_52 rfl (by decide) mc_52 ms_52 (by omega) (Nat.le_of_ble_eq_true rfl) (Nat.le_of_ble_eq_true rfl) (Nat.le_of_ble_eq_true rfl) ?_
    exact h0 e
  · refine k_iload_n hK ti_52_5 rfl ?_
    refine k_bipush hK ti_52_6 kB_30 ?_
    refine k_icmp_le hK ti_52_8 jt_8_13 (fun c_8 => ?_) (fun c_8 => ?_)
    · have e : isin x (nI 1) (nI 30) = false := by simp [isin, c_8]
      refine k_throw hK 2 ti_52_11 ow_52 rfl (by decide) mc_52 ms_52 (by omega) (Nat.le_of_ble_eq_true rfl) (Nat.le_of_ble_eq_true rfl) (Nat.le_of_ble_eq_true rfl) ?_
      exact h0 e
    · have e : isin x (nI 1) (nI 30) = true := by simp [isin, c_2, c_8]
      refine k_return hK ti_52_21 rk_52 mc_52 ms_52 (Nat.le_of_ble_eq_true rfl) (Nat.le_of_ble_eq_true rfl) ?_
      exact h1 e
