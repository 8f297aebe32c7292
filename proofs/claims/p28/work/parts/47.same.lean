/-! The law's own bureau is as the class's. (written by wip/p28/sim3.py) -/
set_option maxRecDepth 100000 in
set_option maxHeartbeats 4000000 in
theorem sp_X5_isSame {X : dp_X} {d n : Nat} {M : dp_M} {o : dp_O} {Q : dp_Q} (h65 : 65 ≤ n) {S hs hw ha hc : Nat} {W C V B : Nat → Nat} {s : GSt} {l : LSt} (hW : GW s) (hR : SR o S hs hw ha hc W C V B s l) (hJ : JC M s l) (h : ∀ M' o', Q (.inl (some (.int (nI 1)))) M' o') : dp_run X (d + 7 + 1) 68 [.ref S, .ref 0] n M o Q := by
  apply k_run
  intro K hK
  rw [mL_68]
  show K 0 [some (.ref S), some (.ref 0), none, none, none, none, none, none, none, none, none, none, none, none, none] [] n 0 0 M o
  have hA16 := hW.1
  have hC6 := hW.2.1
  refine k_aload_n hK ti_68_0 rfl ?_
  refine k_callVd hK (as := []) (st' := []) ti_68_1 ow_68 iv_5_47 mc_68 ms_68 rfl rfl (by omega) (Nat.le_of_ble_eq_true rfl) (Nat.le_of_ble_eq_true rfl) (by omega) (by omega) hR.ob ?_
  refine sp_X5_rarities (by omega) hW hR (fun u o_1 f_1 k_1 hU => ?_)
  have hR0 := hR
  have hk := k_1
  replace hR := hR0.kp hk
  refine k_astore_n hK (L' := [some (.ref S), some (.ref 0), some (.ref u), none, none, none, none, none, none, none, none, none, none, none, none]) ti_68_4 rfl ?_
  refine k_bipush hK ti_68_5 kB_20 ?_
  refine n_newI hK 20 ti_68_7 mc_68 ms_68 rfl (by omega) (by omega) (by omega) (fun q o_7 f_7 k_7 a_7 => ?_)
  have n_q : o q = none := hk.nn f_7
  have d_u_q : u ≠ q := sm_ne hU.sm f_7
  replace hU := hU.kp k_7
  replace hk := hk.trans k_7
  have hR := hR0.kp hk
  have hq := a_7
  refine k_astore_n hK (L' := [some (.ref S), some (.ref 0), some (.ref u), some (.ref q), none, none, none, none, none, none, none, none, none, none, none]) ti_68_9 rfl ?_
  refine k_iconst hK ti_68_10 kI_0 ?_
  refine k_istore hK (L' := [some (.ref S), some (.ref 0), some (.ref u), some (.ref q), some (.int _), none, none, none, none, none, none, none, none, none, none]) ti_68_11 rfl ?_
  refine k_iconst hK ti_68_13 kI_0 ?_
  refine k_istore hK (L' := [some (.ref S), some (.ref 0), some (.ref u), some (.ref q), some (.int _), some (.int _), none, none, none, none, none, none, none, none, none]) ti_68_14 rfl ?_
  have loopa : ∀ (fa k : Nat) (M1 : dp_M), k ≤ 20 → 20 - k < fa → (JC M1 s l) → K 16 [some (.ref S), some (.ref 0), some (.ref u), some (.ref q), some (.int (nI 0)), some (.int (nI k)), none, none, none, none, none, none, none, none, none] [] n (18 + k) (360 + 6 * k) M1 o_7 := by
    intro fa
    induction fa with
    | zero => intro k M1 h1a h2a; omega
    | succ fa iha =>
      intro k M1 h1a h2a hJ
      refine k_iload hK ti_68_16 rfl ?_
      refine k_bipush hK ti_68_18 kB_20 ?_
      refine kn_ge hK (by omega) (by omega) ti_68_20 jt_20_24 (fun c_20 => ?_) (fun c_20 => ?_)
      · refine k_aload_n hK ti_68_23 rfl ?_
        refine k_iload hK ti_68_24 rfl ?_
        refine k_callV hK (as := [.int _]) (st' := []) ti_68_26 ow_68 iv_5_80 mc_68 ms_68 rfl rfl (by omega) (Nat.le_of_ble_eq_true rfl) (Nat.le_of_ble_eq_true rfl) (by omega) (by omega) (by omega) rfl ?_
        refine cf_rarity (by omega) k hJ (by omega) (fun M_26 hJ_26 => ?_)
        replace hJ := hJ_26
        refine k_aload_n hK ti_68_29 rfl ?_
        refine k_iload hK ti_68_30 rfl ?_
        refine n_iald hK ((nI (rar s k))) k ti_68_32 hU (by omega) rfl (by omega) rfl ?_
        have hrr := rar_le hW k
        refine kn_eq hK (by omega) (by omega) ti_68_33 jt_33_5 (fun c_33 => ?_) (fun c_33 => ?_)
        · refine k_iinc hK (L' := [some (.ref S), some (.ref 0), some (.ref u), some (.ref q), some (.int _), some (.int (nI (k + 1))), none, none, none, none, none, none, none, none, none]) ti_68_38 rfl (by rw [kI_1, nI_add]) rfl ?_
          refine k_goto hK ti_68_41 jt_41_m25 ?_
          refine k_wid hK (c' := 18 + (k + 1)) (q' := 360 + 6 * (k + 1)) (by omega) (by omega) ?_
          exact iha (k + 1) _ (by omega) (by omega) hJ
        · exact absurd rfl c_33
      · obtain rfl : k = 20 := by omega
        refine k_iconst hK ti_68_44 kI_0 ?_
        refine k_istore hK (L' := [some (.ref S), some (.ref 0), some (.ref u), some (.ref q), some (.int _), some (.int _), none, none, none, none, none, none, none, none, none]) ti_68_45 rfl ?_
        have loopb : ∀ (fb a : Nat) (M1 : dp_M) (o2 : dp_O) (v6 : Option Value) (v7 : Option Value) (v8 : Option Value) (v9 : Option Value) (v10 : Option Value) (v11 : Option Value) (v12 : Option Value) (v13 : Option Value) (v14 : Option Value), a ≤ (g_nA s) → (g_nA s) - a < fb → (JC M1 s l) → (Kp o o2) → (IA o2 u 20 (fun x => nI (rar s x))) → (IA o2 q 20 (fun x => nI (alx s x a))) → K 47 [some (.ref S), some (.ref 0), some (.ref u), some (.ref q), some (.int (nI (sN a (g_len s)))), some (.int (nI a)), v6, v7, v8, v9, v10, v11, v12, v13, v14] [] n (38 + 34 * a) (480 + 216 * a) M1 o2 := by
          intro fb
          induction fb with
          | zero => intro a M1 o2 v6 v7 v8 v9 v10 v11 v12 v13 v14 h1b h2b; omega
          | succ fb ihb =>
            intro a M1 o2 v6 v7 v8 v9 v10 v11 v12 v13 v14 h1b h2b hJ hk hU hq
            have hR := hR0.kp hk
            refine k_iload hK ti_68_47 rfl ?_
            refine k_aload_n hK ti_68_49 rfl ?_
            refine n_get hK (.ref hw) ti_68_50 ow_68 fd_5_14 hR.ob rfl ?_
            refine n_alenR hK ti_68_53 hR.rw ?_
            refine kn_ge hK (by omega) (by omega) ti_68_54 jt_54_251 (fun c_54 => ?_) (fun c_54 => ?_)
            · have hlen := hW.2.2.2.1 a (by omega)
              refine k_aload_n hK ti_68_57 rfl ?_
              refine k_iload hK ti_68_58 rfl ?_
              refine k_callVd hK (as := [.int _]) (st' := []) ti_68_60 ow_68 iv_5_40 mc_68 ms_68 rfl rfl (by omega) (Nat.le_of_ble_eq_true rfl) (Nat.le_of_ble_eq_true rfl) (by omega) (by omega) hR.ob ?_
              refine sp_X5_table (by omega) a hW hR (by omega) (fun t o_60 f_60 k_60 a_60 => ?_)
              have n_t : o t = none := hk.nn f_60
              have d_u_t : u ≠ t := sm_ne hU.sm f_60
              replace hU := hU.kp k_60
              have d_q_t : q ≠ t := sm_ne hq.sm f_60
              replace hq := hq.kp k_60
              replace hk := hk.trans k_60
              have hR := hR0.kp hk
              have ht := a_60
              refine k_astore hK (L' := [some (.ref S), some (.ref 0), some (.ref u), some (.ref q), some (.int _), some (.int _), some (.ref t), v7, v8, v9, v10, v11, v12, v13, v14]) ti_68_63 rfl ?_
              refine k_iconst hK ti_68_65 kI_0 ?_
              refine k_istore hK (L' := [some (.ref S), some (.ref 0), some (.ref u), some (.ref q), some (.int _), some (.int _), some (.ref t), some (.int _), v8, v9, v10, v11, v12, v13, v14]) ti_68_66 rfl ?_
              refine k_iconst hK ti_68_68 kI_0 ?_
              refine k_istore hK (L' := [some (.ref S), some (.ref 0), some (.ref u), some (.ref q), some (.int _), some (.int _), some (.ref t), some (.int _), some (.int _), v9, v10, v11, v12, v13, v14]) ti_68_69 rfl ?_
              refine k_iconst hK ti_68_71 kI_0 ?_
              refine k_istore hK (L' := [some (.ref S), some (.ref 0), some (.ref u), some (.ref q), some (.int _), some (.int _), some (.ref t), some (.int _), some (.int _), some (.int _), v10, v11, v12, v13, v14]) ti_68_72 rfl ?_
              have loopc : ∀ (fc j : Nat) (o2 : dp_O), j ≤ 20 → 20 - j < fc → (Kp o o2) → (IA o2 u 20 (fun x => nI (rar s x))) → (IA o2 q 20 (fun x => if x < j then nI (alx s x (a + 1)) else nI (alx s x a))) → (IA o2 t 20 (fun x => nI (tm s a x))) → K 74 [some (.ref S), some (.ref 0), some (.ref u), some (.ref q), some (.int (nI (sN a (g_len s)))), some (.int (nI a)), some (.ref t), some (.int (nI (cnt j (fun x => decide (0 < tm s a x))))), some (.int (nI 0)), some (.int (nI j)), v10, v11, v12, v13, v14] [] n (38 + 34 * a + 1) (480 + 216 * a + 20) M1 o2 := by
                intro fc
                induction fc with
                | zero => intro j o2 h1c h2c; omega
                | succ fc ihc =>
                  intro j o2 h1c h2c hk hU hq ht
                  have hR := hR0.kp hk
                  refine k_iload hK ti_68_74 rfl ?_
                  refine k_bipush hK ti_68_76 kB_20 ?_
                  refine kn_ge hK (by omega) (by omega) ti_68_78 jt_78_39 (fun c_78 => ?_) (fun c_78 => ?_)
                  · have htm := tm_le hW (show a < 16 by omega) j
                    have hal := alx_le hW j (show a ≤ 16 by omega)
                    refine k_iload hK ti_68_81 rfl ?_
                    refine k_aload hK ti_68_83 rfl ?_
                    refine k_iload hK ti_68_85 rfl ?_
                    refine n_iald hK ((nI (tm s a j))) j ti_68_87 ht (by omega) rfl (by omega) rfl ?_
                    refine kz_le hK (by omega) ti_68_88 jt_88_7 (fun c_88 => ?_) (fun c_88 => ?_)
                    · refine k_iconst hK ti_68_91 kI_1 ?_
                      refine k_goto hK ti_68_92 jt_92_4 ?_
                      refine k_iadd hK (z := (nI (cnt (j + 1) (fun x => decide (0 < tm s a x))))) ti_68_96 (by rw [nI_add, cnt_t (by simp [c_88])]) ?_
                      refine k_istore hK (L' := [some (.ref S), some (.ref 0), some (.ref u), some (.ref q), some (.int _), some (.int _), some (.ref t), some (.int _), some (.int _), some (.int _), v10, v11, v12, v13, v14]) ti_68_97 rfl ?_
                      refine k_aload_n hK ti_68_99 rfl ?_
                      refine k_iload hK ti_68_100 rfl ?_
                      refine k_dup2 hK ti_68_102 rfl rfl ?_
                      refine n_iald hK ((nI (alx s j a))) j ti_68_103 hq (by omega) rfl (by omega) (if_neg (Nat.lt_irrefl _)) ?_
                      refine k_aload hK ti_68_104 rfl ?_
                      refine k_iload hK ti_68_106 rfl ?_
                      refine n_iald hK ((nI (tm s a j))) j ti_68_108 ht (by omega) rfl (by omega) rfl ?_
                      refine k_iadd hK (z := (nI (alx s j (a + 1)))) ti_68_109 (nI_add _ _) ?_
                      refine n_iast hK j ti_68_110 hq (by omega) rfl (by omega) (fun o_110 w_110 a_110 => ?_)
                      replace hk := hk.wr n_q w_110
                      replace hU := hU.wr w_110 d_u_q
                      have hR := hR0.kp hk
                      replace hq := a_110
                      replace ht := ht.wr w_110 d_q_t.symm
                      refine k_iinc hK (L' := [some (.ref S), some (.ref 0), some (.ref u), some (.ref q), some (.int _), some (.int _), some (.ref t), some (.int _), some (.int _), some (.int (nI (j + 1))), v10, v11, v12, v13, v14]) ti_68_111 rfl (by rw [kI_1, nI_add]) rfl ?_
                      refine k_goto hK ti_68_114 jt_114_m40 ?_
                      exact ihc (j + 1) _ (by omega) (by omega) hk hU (hq.congr (fun x hx => up_if (f := fun x => nI (alx s x (a + 1))) (g := fun x => nI (alx s x a)) rfl)) ht
                    · refine k_iconst hK ti_68_95 kI_0 ?_
                      refine k_iadd hK (z := (nI (cnt (j + 1) (fun x => decide (0 < tm s a x))))) ti_68_96 (by rw [nI_add, Nat.add_zero, cnt_f (by simp [c_88])]) ?_
                      refine k_istore hK (L' := [some (.ref S), some (.ref 0), some (.ref u), some (.ref q), some (.int _), some (.int _), some (.ref t), some (.int _), some (.int _), some (.int _), v10, v11, v12, v13, v14]) ti_68_97 rfl ?_
                      refine k_aload_n hK ti_68_99 rfl ?_
                      refine k_iload hK ti_68_100 rfl ?_
                      refine k_dup2 hK ti_68_102 rfl rfl ?_
                      refine n_iald hK ((nI (alx s j a))) j ti_68_103 hq (by omega) rfl (by omega) (if_neg (Nat.lt_irrefl _)) ?_
                      refine k_aload hK ti_68_104 rfl ?_
                      refine k_iload hK ti_68_106 rfl ?_
                      refine n_iald hK ((nI (tm s a j))) j ti_68_108 ht (by omega) rfl (by omega) rfl ?_
                      refine k_iadd hK (z := (nI (alx s j (a + 1)))) ti_68_109 (nI_add _ _) ?_
                      refine n_iast hK j ti_68_110 hq (by omega) rfl (by omega) (fun o_110 w_110 a_110 => ?_)
                      replace hk := hk.wr n_q w_110
                      replace hU := hU.wr w_110 d_u_q
                      have hR := hR0.kp hk
                      replace hq := a_110
                      replace ht := ht.wr w_110 d_q_t.symm
                      refine k_iinc hK (L' := [some (.ref S), some (.ref 0), some (.ref u), some (.ref q), some (.int _), some (.int _), some (.ref t), some (.int _), some (.int _), some (.int (nI (j + 1))), v10, v11, v12, v13, v14]) ti_68_111 rfl (by rw [kI_1, nI_add]) rfl ?_
                      refine k_goto hK ti_68_114 jt_114_m40 ?_
                      exact ihc (j + 1) _ (by omega) (by omega) hk hU (hq.congr (fun x hx => up_if (f := fun x => nI (alx s x (a + 1))) (g := fun x => nI (alx s x a)) rfl)) ht
                  · obtain rfl : j = 20 := by omega
                    have hq1 : IA o2 q 20 (fun x => nI (alx s x (a + 1))) := hq.congr (fun x hx => if_pos hx)
                    replace hq := hq1
                    refine k_aload_n hK ti_68_117 rfl ?_
                    refine n_get hK (.ref hc) ti_68_118 ow_68 fd_5_23 hR.ob rfl ?_
                    refine k_astore hK (L' := [some (.ref S), some (.ref 0), some (.ref u), some (.ref q), some (.int _), some (.int _), some (.ref t), some (.int _), some (.int _), some (.ref hc), v10, v11, v12, v13, v14]) ti_68_121 rfl ?_
                    refine k_aload hK ti_68_123 rfl ?_
                    refine n_alenR hK ti_68_125 hR.rc ?_
                    refine k_istore hK (L' := [some (.ref S), some (.ref 0), some (.ref u), some (.ref q), some (.int _), some (.int _), some (.ref t), some (.int _), some (.int _), some (.ref hc), some (.int _), v11, v12, v13, v14]) ti_68_126 rfl ?_
                    refine k_iconst hK ti_68_128 kI_0 ?_
                    refine k_istore hK (L' := [some (.ref S), some (.ref 0), some (.ref u), some (.ref q), some (.int _), some (.int _), some (.ref t), some (.int _), some (.int _), some (.ref hc), some (.int _), some (.int _), v12, v13, v14]) ti_68_129 rfl ?_
                    have loopd : ∀ (fd e : Nat) (v12 : Option Value), e ≤ (g_nC s) → (g_nC s) - e < fd → K 131 [some (.ref S), some (.ref 0), some (.ref u), some (.ref q), some (.int (nI (sN a (g_len s)))), some (.int (nI a)), some (.ref t), some (.int (nI (cnt 20 (fun x => decide (0 < tm s a x))))), some (.int (nI (cnt e (fun c => bit (l_sent l c) a)))), some (.ref hc), some (.int (nI (g_nC s))), some (.int (nI e)), v12, v13, v14] [] n (38 + 34 * a + 1) (480 + 216 * a + 20) M1 o2 := by
                      intro fd
                      induction fd with
                      | zero => intro e v12 h1d h2d; omega
                      | succ fd ihd =>
                        intro e v12 h1d h2d
                        refine k_iload hK ti_68_131 rfl ?_
                        refine k_iload hK ti_68_133 rfl ?_
                        refine kn_ge hK (by omega) (by omega) ti_68_135 jt_135_37 (fun c_135 => ?_) (fun c_135 => ?_)
                        · refine k_aload hK ti_68_138 rfl ?_
                          refine k_iload hK ti_68_140 rfl ?_
                          refine n_aald hK e ti_68_142 hR.rc (by omega) rfl (by omega) ?_
                          refine k_astore hK (L' := [some (.ref S), some (.ref 0), some (.ref u), some (.ref q), some (.int _), some (.int _), some (.ref t), some (.int _), some (.int _), some (.ref hc), some (.int _), some (.int _), some (.ref (C e)), v13, v14]) ti_68_143 rfl ?_
                          refine k_iload hK ti_68_145 rfl ?_
                          refine k_aload hK ti_68_147 rfl ?_
                          refine n_get hK (.ref (B e)) ti_68_149 ow_68 fd_5_55 (hR.cl e (by omega)) rfl ?_
                          refine k_iload hK ti_68_152 rfl ?_
                          refine n_bald hK ((bl (bit (l_sent l e) a))) a ti_68_154 (hR.se e (by omega)) (by omega) rfl (by omega) rfl ?_
                          refine kb_eq hK ti_68_155 jt_155_7 (fun c_155 => ?_) (fun c_155 => ?_)
                          · refine k_iconst hK ti_68_162 kI_0 ?_
                            refine k_iadd hK (z := (nI (cnt (e + 1) (fun c => bit (l_sent l c) a)))) ti_68_163 (by rw [nI_add, Nat.add_zero, cnt_f (by simp [c_155])]) ?_
                            refine k_istore hK (L' := [some (.ref S), some (.ref 0), some (.ref u), some (.ref q), some (.int _), some (.int _), some (.ref t), some (.int _), some (.int _), some (.ref hc), some (.int _), some (.int _), some (.ref (C e)), v13, v14]) ti_68_164 rfl ?_
                            refine k_iinc hK (L' := [some (.ref S), some (.ref 0), some (.ref u), some (.ref q), some (.int _), some (.int _), some (.ref t), some (.int _), some (.int _), some (.ref hc), some (.int _), some (.int (nI (e + 1))), some (.ref (C e)), v13, v14]) ti_68_166 rfl (by rw [kI_1, nI_add]) rfl ?_
                            refine k_goto hK ti_68_169 jt_169_m38 ?_
                            exact ihd (e + 1) _ (by omega) (by omega) 
                          · refine k_iconst hK ti_68_158 kI_1 ?_
                            refine k_goto hK ti_68_159 jt_159_4 ?_
                            refine k_iadd hK (z := (nI (cnt (e + 1) (fun c => bit (l_sent l c) a)))) ti_68_163 (by rw [nI_add, cnt_t (by simp [c_155])]) ?_
                            refine k_istore hK (L' := [some (.ref S), some (.ref 0), some (.ref u), some (.ref q), some (.int _), some (.int _), some (.ref t), some (.int _), some (.int _), some (.ref hc), some (.int _), some (.int _), some (.ref (C e)), v13, v14]) ti_68_164 rfl ?_
                            refine k_iinc hK (L' := [some (.ref S), some (.ref 0), some (.ref u), some (.ref q), some (.int _), some (.int _), some (.ref t), some (.int _), some (.int _), some (.ref hc), some (.int _), some (.int (nI (e + 1))), some (.ref (C e)), v13, v14]) ti_68_166 rfl (by rw [kI_1, nI_add]) rfl ?_
                            refine k_goto hK ti_68_169 jt_169_m38 ?_
                            exact ihd (e + 1) _ (by omega) (by omega) 
                        · obtain rfl : e = g_nC s := by omega
                          refine k_iconst hK ti_68_172 kI_4 ?_
                          refine n_newI hK 4 ti_68_173 mc_68 ms_68 rfl (by omega) (by omega) (by omega) (fun r o_173 f_173 k_173 a_173 => ?_)
                          have n_r : o r = none := hk.nn f_173
                          have d_u_r : u ≠ r := sm_ne hU.sm f_173
                          replace hU := hU.kp k_173
                          have d_q_r : q ≠ r := sm_ne hq.sm f_173
                          replace hq := hq.kp k_173
                          replace hk := hk.trans k_173
                          have hR := hR0.kp hk
                          have hr := a_173
                          refine k_dup hK ti_68_175 rfl ?_
                          refine k_iconst hK ti_68_176 kI_0 ?_
                          refine k_aload_n hK ti_68_177 rfl ?_
                          refine n_get hK (.ref hw) ti_68_178 ow_68 fd_5_14 hR.ob rfl ?_
                          refine k_iload hK ti_68_181 rfl ?_
                          refine n_aald hK a ti_68_183 hR.rw (by omega) rfl (by omega) ?_
                          refine n_alenI hK ti_68_184 (hR.wd a (by omega)) ?_
                          refine n_iast hK 0 ti_68_185 hr (by omega) rfl (by omega) (fun o_185 w_185 a_185 => ?_)
                          replace hk := hk.wr n_r w_185
                          replace hU := hU.wr w_185 d_u_r
                          replace hq := hq.wr w_185 d_q_r
                          have hR := hR0.kp hk
                          replace hr := a_185
                          refine k_dup hK ti_68_186 rfl ?_
                          refine k_iconst hK ti_68_187 kI_1 ?_
                          refine k_iload hK ti_68_188 rfl ?_
                          refine n_iast hK 1 ti_68_190 hr (by omega) rfl (by omega) (fun o_190 w_190 a_190 => ?_)
                          replace hk := hk.wr n_r w_190
                          replace hU := hU.wr w_190 d_u_r
                          replace hq := hq.wr w_190 d_q_r
                          have hR := hR0.kp hk
                          replace hr := a_190
                          refine k_dup hK ti_68_191 rfl ?_
                          refine k_iconst hK ti_68_192 kI_2 ?_
                          refine k_aload_n hK ti_68_193 rfl ?_
                          refine n_get hK (.ref ha) ti_68_194 ow_68 fd_5_18 hR.ob rfl ?_
                          refine k_iload hK ti_68_197 rfl ?_
                          refine n_iald hK ((l_age l a)) a ti_68_199 hR.age (by omega) rfl (by omega) rfl ?_
                          refine n_iast hK 2 ti_68_200 hr (by omega) rfl (by omega) (fun o_200 w_200 a_200 => ?_)
                          replace hk := hk.wr n_r w_200
                          replace hU := hU.wr w_200 d_u_r
                          replace hq := hq.wr w_200 d_q_r
                          have hR := hR0.kp hk
                          replace hr := a_200
                          refine k_dup hK ti_68_201 rfl ?_
                          refine k_iconst hK ti_68_202 kI_3 ?_
                          refine k_iload hK ti_68_203 rfl ?_
                          refine n_iast hK 3 ti_68_205 hr (by omega) rfl (by omega) (fun o_205 w_205 a_205 => ?_)
                          replace hk := hk.wr n_r w_205
                          replace hU := hU.wr w_205 d_u_r
                          replace hq := hq.wr w_205 d_q_r
                          have hR := hR0.kp hk
                          replace hr := a_205
                          replace hr := hr.congr (fun w hw => aT_row (s := s) (l := l) (a := a) w hw)
                          refine k_astore hK (L' := [some (.ref S), some (.ref 0), some (.ref u), some (.ref q), some (.int _), some (.int _), some (.ref t), some (.int _), some (.int _), some (.ref r), some (.int _), some (.int _), v12, v13, v14]) ti_68_206 rfl ?_
                          refine k_iconst hK ti_68_208 kI_0 ?_
                          refine k_istore hK (L' := [some (.ref S), some (.ref 0), some (.ref u), some (.ref q), some (.int _), some (.int _), some (.ref t), some (.int _), some (.int _), some (.ref r), some (.int _), some (.int _), v12, v13, v14]) ti_68_209 rfl ?_
                          have loope : ∀ (fe w : Nat) (M1 : dp_M) (v11 : Option Value) (v12 : Option Value), w ≤ 4 → 4 - w < fe → (JC M1 s l) → K 211 [some (.ref S), some (.ref 0), some (.ref u), some (.ref q), some (.int (nI (sN a (g_len s)))), some (.int (nI a)), some (.ref t), some (.int (nI (cnt 20 (fun x => decide (0 < tm s a x))))), some (.int (nI (cnt (g_nC s) (fun c => bit (l_sent l c) a)))), some (.ref r), some (.int (nI w)), v11, v12, v13, v14] [] n (38 + 34 * a + 2 + 2 * w) (480 + 216 * a + 24 + 12 * w) M1 o_205 := by
                            intro fe
                            induction fe with
                            | zero => intro w M1 v11 v12 h1e h2e; omega
                            | succ fe ihe =>
                              intro w M1 v11 v12 h1e h2e hJ
                              refine k_iload hK ti_68_211 rfl ?_
                              refine k_iconst hK ti_68_213 kI_4 ?_
                              refine kn_ge hK (by omega) (by omega) ti_68_214 jt_214_27 (fun c_214 => ?_) (fun c_214 => ?_)
                              · refine k_aload_n hK ti_68_217 rfl ?_
                                refine k_iload hK ti_68_218 rfl ?_
                                refine k_iload hK ti_68_220 rfl ?_
                                refine k_callV hK (as := [.int _, .int _]) (st' := []) ti_68_222 ow_68 iv_5_86 mc_68 ms_68 rfl rfl (by omega) (Nat.le_of_ble_eq_true rfl) (Nat.le_of_ble_eq_true rfl) (by omega) (by omega) (by omega) rfl ?_
                                refine cf_told (by omega) a w hJ (by omega) (by omega) (fun M_222 hJ_222 => ?_)
                                replace hJ := hJ_222
                                refine k_aload hK ti_68_225 rfl ?_
                                refine k_iload hK ti_68_227 rfl ?_
                                refine n_iald hK ((aT s l a w)) w ti_68_229 hr (by omega) rfl (by omega) rfl ?_
                                refine k_icmp_eq hK ti_68_230 jt_230_5 (fun c_230 => ?_) (fun c_230 => ?_)
                                · refine k_iinc hK (L' := [some (.ref S), some (.ref 0), some (.ref u), some (.ref q), some (.int _), some (.int _), some (.ref t), some (.int _), some (.int _), some (.ref r), some (.int (nI (w + 1))), v11, v12, v13, v14]) ti_68_235 rfl (by rw [kI_1, nI_add]) rfl ?_
                                  refine k_goto hK ti_68_238 jt_238_m27 ?_
                                  refine k_wid hK (c' := 38 + 34 * a + 2 + 2 * (w + 1)) (q' := 480 + 216 * a + 24 + 12 * (w + 1)) (by omega) (by omega) ?_
                                  exact ihe (w + 1) _ _ _ (by omega) (by omega) hJ
                                · exact absurd rfl c_230
                              · obtain rfl : w = 4 := by omega
                                refine k_iconst hK ti_68_241 kI_0 ?_
                                refine k_istore hK (L' := [some (.ref S), some (.ref 0), some (.ref u), some (.ref q), some (.int _), some (.int _), some (.ref t), some (.int _), some (.int _), some (.ref r), some (.int _), v11, v12, v13, v14]) ti_68_242 rfl ?_
                                have loopf : ∀ (ff g : Nat) (M1 : dp_M), g ≤ (g_len s a) → (g_len s a) - g < ff → (JC M1 s l) → K 244 [some (.ref S), some (.ref 0), some (.ref u), some (.ref q), some (.int (nI (sN a (g_len s)))), some (.int (nI a)), some (.ref t), some (.int (nI (cnt 20 (fun x => decide (0 < tm s a x))))), some (.int (nI (cnt (g_nC s) (fun c => bit (l_sent l c) a)))), some (.ref r), some (.int (nI g)), v11, v12, v13, v14] [] n (38 + 34 * a + 10 + 2 * g) (480 + 216 * a + 72 + 12 * g) M1 o_205 := by
                                  intro ff
                                  induction ff with
                                  | zero => intro g M1 h1f h2f; omega
                                  | succ ff ihf =>
                                    intro g M1 h1f h2f hJ
                                    refine k_iload hK ti_68_244 rfl ?_
                                    refine k_aload_n hK ti_68_246 rfl ?_
                                    refine n_get hK (.ref hw) ti_68_247 ow_68 fd_5_14 hR.ob rfl ?_
                                    refine k_iload hK ti_68_250 rfl ?_
                                    refine n_aald hK a ti_68_252 hR.rw (by omega) rfl (by omega) ?_
                                    refine n_alenI hK ti_68_253 (hR.wd a (by omega)) ?_
                                    refine kn_ge hK (by omega) (by omega) ti_68_254 jt_254_32 (fun c_254 => ?_) (fun c_254 => ?_)
                                    · have hw40 := hW.2.2.2.2.1 a g (by omega) c_254
                                      refine k_aload_n hK ti_68_257 rfl ?_
                                      refine k_iload hK ti_68_258 rfl ?_
                                      refine k_iload hK ti_68_260 rfl ?_
                                      refine k_callV hK (as := [.int _, .int _]) (st' := []) ti_68_262 ow_68 iv_5_90 mc_68 ms_68 rfl rfl (by omega) (Nat.le_of_ble_eq_true rfl) (Nat.le_of_ble_eq_true rfl) (by omega) (by omega) (by omega) rfl ?_
                                      refine cf_word (by omega) a g hJ (by omega) (by omega) (fun M_262 hJ_262 => ?_)
                                      replace hJ := hJ_262
                                      refine k_aload_n hK ti_68_265 rfl ?_
                                      refine n_get hK (.ref hw) ti_68_266 ow_68 fd_5_14 hR.ob rfl ?_
                                      refine k_iload hK ti_68_269 rfl ?_
                                      refine n_aald hK a ti_68_271 hR.rw (by omega) rfl (by omega) ?_
                                      refine k_iload hK ti_68_272 rfl ?_
                                      refine n_iald hK ((nI (g_wd s a g))) g ti_68_274 (hR.wd a (by omega)) (by omega) rfl (by omega) rfl ?_
                                      refine kn_eq hK (by omega) (by omega) ti_68_275 jt_275_5 (fun c_275 => ?_) (fun c_275 => ?_)
                                      · refine k_iinc hK (L' := [some (.ref S), some (.ref 0), some (.ref u), some (.ref q), some (.int _), some (.int _), some (.ref t), some (.int _), some (.int _), some (.ref r), some (.int (nI (g + 1))), v11, v12, v13, v14]) ti_68_280 rfl (by rw [kI_1, nI_add]) rfl ?_
                                        refine k_goto hK ti_68_283 jt_283_m39 ?_
                                        refine k_wid hK (c' := 38 + 34 * a + 10 + 2 * (g + 1)) (q' := 480 + 216 * a + 72 + 12 * (g + 1)) (by omega) (by omega) ?_
                                        exact ihf (g + 1) _ (by omega) (by omega) hJ
                                      · exact absurd rfl c_275
                                    · have e9 : g = g_len s a := by omega
                                      refine k_iload hK ti_68_286 rfl ?_
                                      refine k_aload_n hK ti_68_288 rfl ?_
                                      refine n_get hK (.ref hw) ti_68_289 ow_68 fd_5_14 hR.ob rfl ?_
                                      refine k_iload hK ti_68_292 rfl ?_
                                      refine n_aald hK a ti_68_294 hR.rw (by omega) rfl (by omega) ?_
                                      refine n_alenI hK ti_68_295 (hR.wd a (by omega)) ?_
                                      refine k_iadd hK (z := (nI (sN (a + 1) (g_len s)))) ti_68_296 (nI_add _ _) ?_
                                      refine k_istore hK (L' := [some (.ref S), some (.ref 0), some (.ref u), some (.ref q), some (.int _), some (.int _), some (.ref t), some (.int _), some (.int _), some (.ref r), some (.int _), v11, v12, v13, v14]) ti_68_297 rfl ?_
                                      refine k_iinc hK (L' := [some (.ref S), some (.ref 0), some (.ref u), some (.ref q), some (.int _), some (.int (nI (a + 1))), some (.ref t), some (.int _), some (.int _), some (.ref r), some (.int _), v11, v12, v13, v14]) ti_68_299 rfl (by rw [kI_1, nI_add]) rfl ?_
                                      refine k_goto hK ti_68_302 jt_302_m255 ?_
                                      refine k_wid hK (c' := 38 + 34 * (a + 1)) (q' := 480 + 216 * (a + 1)) (by omega) (by omega) ?_
                                      exact ihb (a + 1) _ _ _ _ _ _ _ _ _ _ _ (by omega) (by omega) hJ hk hU hq
                                refine k_wid hK (c' := 38 + 34 * a + 10 + 2 * 0) (q' := 480 + 216 * a + 72 + 12 * 0) (by omega) (by omega) ?_
                                exact loopf ((g_len s a) - 0 + 1) 0 _ (by omega) (by omega) hJ
                          refine k_wid hK (c' := 38 + 34 * a + 2 + 2 * 0) (q' := 480 + 216 * a + 24 + 12 * 0) (by omega) (by omega) ?_
                          exact loope (4 - 0 + 1) 0 _ _ _ (by omega) (by omega) hJ
                    exact loopd ((g_nC s) - 0 + 1) 0 _ (by omega) (by omega) 
              exact loopc (20 - 0 + 1) 0 _ (by omega) (by omega) hk hU (hq.congr (fun x hx => (if_neg (Nat.not_lt_zero x)).symm)) ht
            · obtain rfl : a = g_nA s := by omega
              refine k_iconst hK ti_68_305 kI_0 ?_
              refine k_istore hK (L' := [some (.ref S), some (.ref 0), some (.ref u), some (.ref q), some (.int _), some (.int _), v6, v7, v8, v9, v10, v11, v12, v13, v14]) ti_68_306 rfl ?_
              refine k_iconst hK ti_68_308 kI_0 ?_
              refine k_istore hK (L' := [some (.ref S), some (.ref 0), some (.ref u), some (.ref q), some (.int _), some (.int _), some (.int _), v7, v8, v9, v10, v11, v12, v13, v14]) ti_68_309 rfl ?_
              refine k_iconst hK ti_68_311 kI_0 ?_
              refine k_istore hK (L' := [some (.ref S), some (.ref 0), some (.ref u), some (.ref q), some (.int _), some (.int _), some (.int _), some (.int _), v8, v9, v10, v11, v12, v13, v14]) ti_68_312 rfl ?_
              have loopg : ∀ (fg c : Nat) (M1 : dp_M) (o2 : dp_O) (v8 : Option Value) (v9 : Option Value) (v10 : Option Value) (v11 : Option Value) (v12 : Option Value) (v13 : Option Value) (v14 : Option Value), c ≤ (g_nC s) → (g_nC s) - c < fg → (JC M1 s l) → (Kp o o2) → (IA o2 u 20 (fun x => nI (rar s x))) → (IA o2 q 20 (fun x => nI (alx s x (g_nA s)))) → K 314 [some (.ref S), some (.ref 0), some (.ref u), some (.ref q), some (.int (nI (sN (g_nA s) (g_len s)))), some (.int (nI (sN c (snt s l)))), some (.int (sm c (l_paid l))), some (.int (nI c)), v8, v9, v10, v11, v12, v13, v14] [] n (38 + 34 * g_nA s + 137 * c) (480 + 216 * g_nA s + 1518 * c) M1 o2 := by
                intro fg
                induction fg with
                | zero => intro c M1 o2 v8 v9 v10 v11 v12 v13 v14 h1g h2g; omega
                | succ fg ihg =>
                  intro c M1 o2 v8 v9 v10 v11 v12 v13 v14 h1g h2g hJ hk hU hq
                  have hR := hR0.kp hk
                  refine k_iload hK ti_68_314 rfl ?_
                  refine k_aload_n hK ti_68_316 rfl ?_
                  refine n_get hK (.ref hc) ti_68_317 ow_68 fd_5_23 hR.ob rfl ?_
                  refine n_alenR hK ti_68_320 hR.rc ?_
                  refine kn_ge hK (by omega) (by omega) ti_68_321 jt_321_308 (fun c_321 => ?_) (fun c_321 => ?_)
                  · have hm5 := hW.2.2.2.2.2.1 c (by omega)
                    have hfts : fts s l c ≤ g_nA s := cnt_le _ _
                    refine k_aload_n hK ti_68_324 rfl ?_
                    refine n_get hK (.ref hc) ti_68_325 ow_68 fd_5_23 hR.ob rfl ?_
                    refine k_iload hK ti_68_328 rfl ?_
                    refine n_aald hK c ti_68_330 hR.rc (by omega) rfl (by omega) ?_
                    refine k_astore hK (L' := [some (.ref S), some (.ref 0), some (.ref u), some (.ref q), some (.int _), some (.int _), some (.int _), some (.int _), some (.ref (C c)), v9, v10, v11, v12, v13, v14]) ti_68_331 rfl ?_
                    refine k_aload_n hK ti_68_333 rfl ?_
                    refine k_aload hK ti_68_334 rfl ?_
                    refine k_callVd hK (as := [.ref (C c)]) (st' := []) ti_68_336 ow_68 iv_5_62 mc_68 ms_68 rfl rfl (by omega) (Nat.le_of_ble_eq_true rfl) (Nat.le_of_ble_eq_true rfl) (by omega) (by omega) hR.ob ?_
                    refine sp_X5_fits (by omega) c hW hR (by omega) (fun f o_336 f_336 k_336 a_336 => ?_)
                    have n_f : o f = none := hk.nn f_336
                    have d_u_f : u ≠ f := sm_ne hU.sm f_336
                    replace hU := hU.kp k_336
                    have d_q_f : q ≠ f := sm_ne hq.sm f_336
                    replace hq := hq.kp k_336
                    replace hk := hk.trans k_336
                    have hR := hR0.kp hk
                    have hf := a_336
                    refine k_astore hK (L' := [some (.ref S), some (.ref 0), some (.ref u), some (.ref q), some (.int _), some (.int _), some (.int _), some (.int _), some (.ref (C c)), some (.ref f), v10, v11, v12, v13, v14]) ti_68_339 rfl ?_
                    refine k_iconst hK ti_68_341 kI_0 ?_
                    refine k_istore hK (L' := [some (.ref S), some (.ref 0), some (.ref u), some (.ref q), some (.int _), some (.int _), some (.int _), some (.int _), some (.ref (C c)), some (.ref f), some (.int _), v11, v12, v13, v14]) ti_68_342 rfl ?_
                    refine k_iconst hK ti_68_344 kI_0 ?_
                    refine k_istore hK (L' := [some (.ref S), some (.ref 0), some (.ref u), some (.ref q), some (.int _), some (.int _), some (.int _), some (.int _), some (.ref (C c)), some (.ref f), some (.int _), some (.int _), v12, v13, v14]) ti_68_345 rfl ?_
                    refine k_iconst hK ti_68_347 kI_0 ?_
                    refine k_istore hK (L' := [some (.ref S), some (.ref 0), some (.ref u), some (.ref q), some (.int _), some (.int _), some (.int _), some (.int _), some (.ref (C c)), some (.ref f), some (.int _), some (.int _), some (.int _), v13, v14]) ti_68_348 rfl ?_
                    have looph : ∀ (fh i : Nat) (M1 : dp_M) (o2 : dp_O), i ≤ (g_nA s) → (g_nA s) - i < fh → (JC M1 s l) → (Kp o o2) → (IA o2 u 20 (fun x => nI (rar s x))) → (IA o2 q 20 (fun x => nI (alx s x (g_nA s)))) → (IA o2 f (g_nA s) (FT s l c)) → K 350 [some (.ref S), some (.ref 0), some (.ref u), some (.ref q), some (.int (nI (sN (g_nA s) (g_len s)))), some (.int (nI (sN c (snt s l)))), some (.int (sm c (l_paid l))), some (.int (nI c)), some (.ref (C c)), some (.ref f), some (.int (nI (cnt i (fun a => bit (l_sent l c) a)))), some (.int (nI (cnt i (fit s l c)))), some (.int (nI i)), v13, v14] [] n (38 + 34 * g_nA s + 137 * c + 34 + 3 * i) (480 + 216 * g_nA s + 1518 * c + 676 + 32 * i) M1 o2 := by
                      intro fh
                      induction fh with
                      | zero => intro i M1 o2 h1h h2h; omega
                      | succ fh ihh =>
                        intro i M1 o2 h1h h2h hJ hk hU hq hf
                        have hR := hR0.kp hk
                        refine k_iload hK ti_68_350 rfl ?_
                        refine k_aload_n hK ti_68_352 rfl ?_
                        refine n_get hK (.ref hw) ti_68_353 ow_68 fd_5_14 hR.ob rfl ?_
                        refine n_alenR hK ti_68_356 hR.rw ?_
                        refine kn_ge hK (by omega) (by omega) ti_68_357 jt_357_81 (fun c_357 => ?_) (fun c_357 => ?_)
                        · refine k_iload hK ti_68_360 rfl ?_
                          refine k_aload hK ti_68_362 rfl ?_
                          refine n_get hK (.ref (B c)) ti_68_364 ow_68 fd_5_55 (hR.cl c (by omega)) rfl ?_
                          refine k_iload hK ti_68_367 rfl ?_
                          refine n_bald hK ((bl (bit (l_sent l c) i))) i ti_68_369 (hR.se c (by omega)) (by omega) rfl (by omega) rfl ?_
                          refine kb_eq hK ti_68_370 jt_370_7 (fun c_370 => ?_) (fun c_370 => ?_)
                          · refine k_iconst hK ti_68_377 kI_0 ?_
                            refine k_iadd hK (z := (nI (cnt (i + 1) (fun a => bit (l_sent l c) a)))) ti_68_378 (by rw [nI_add, Nat.add_zero, cnt_f (by simp [c_370])]) ?_
                            refine k_istore hK (L' := [some (.ref S), some (.ref 0), some (.ref u), some (.ref q), some (.int _), some (.int _), some (.int _), some (.int _), some (.ref (C c)), some (.ref f), some (.int _), some (.int _), some (.int _), v13, v14]) ti_68_379 rfl ?_
                            refine k_iload hK ti_68_381 rfl ?_
                            refine k_aload hK ti_68_383 rfl ?_
                            refine k_iload hK ti_68_385 rfl ?_
                            refine n_iald hK ((FT s l c i)) i ti_68_387 hf (by omega) rfl (by omega) rfl ?_
                            refine k_if_lt hK ti_68_388 jt_388_7 (fun c_388 => ?_) (fun c_388 => ?_)
                            · refine k_iconst hK ti_68_395 kI_0 ?_
                              refine k_iadd hK (z := (nI (cnt (i + 1) (fit s l c)))) ti_68_396 (by rw [nI_add, Nat.add_zero, cnt_f (FT_neg.mp c_388)]) ?_
                              refine k_istore hK (L' := [some (.ref S), some (.ref 0), some (.ref u), some (.ref q), some (.int _), some (.int _), some (.int _), some (.int _), some (.ref (C c)), some (.ref f), some (.int _), some (.int _), some (.int _), v13, v14]) ti_68_397 rfl ?_
                              refine k_aload_n hK ti_68_399 rfl ?_
                              refine k_iload hK ti_68_400 rfl ?_
                              refine k_iload hK ti_68_402 rfl ?_
                              refine k_callV hK (as := [.int _, .int _]) (st' := []) ti_68_404 ow_68 iv_5_93 mc_68 ms_68 rfl rfl (by omega) (Nat.le_of_ble_eq_true rfl) (Nat.le_of_ble_eq_true rfl) (by omega) (by omega) (by omega) rfl ?_
                              refine cf_score (by omega) c i hJ (by omega) (by omega) (fun M_404 hJ_404 => ?_)
                              replace hJ := hJ_404
                              refine k_aload_n hK ti_68_407 rfl ?_
                              refine k_aload hK ti_68_408 rfl ?_
                              refine k_aload_n hK ti_68_410 rfl ?_
                              refine k_iload hK ti_68_411 rfl ?_
                              refine k_callVd hK (as := [.int _]) (st' := [.ref (C c), .ref S, .int _]) ti_68_413 ow_68 iv_5_40 mc_68 ms_68 rfl rfl (by omega) (Nat.le_of_ble_eq_true rfl) (Nat.le_of_ble_eq_true rfl) (by omega) (by omega) hR.ob ?_
                              refine sp_X5_table (by omega) i hW hR (by omega) (fun t o_413 f_413 k_413 a_413 => ?_)
                              have n_t : o t = none := hk.nn f_413
                              have d_u_t : u ≠ t := sm_ne hU.sm f_413
                              replace hU := hU.kp k_413
                              have d_q_t : q ≠ t := sm_ne hq.sm f_413
                              replace hq := hq.kp k_413
                              have d_f_t : f ≠ t := sm_ne hf.sm f_413
                              replace hf := hf.kp k_413
                              replace hk := hk.trans k_413
                              have hR := hR0.kp hk
                              have ht := a_413
                              refine k_aload_n hK ti_68_416 rfl ?_
                              refine k_aload_n hK ti_68_417 rfl ?_
                              refine n_get hK (.ref ha) ti_68_418 ow_68 fd_5_18 hR.ob rfl ?_
                              refine k_iload hK ti_68_421 rfl ?_
                              refine n_iald hK ((l_age l i)) i ti_68_423 hR.age (by omega) rfl (by omega) rfl ?_
                              refine k_callVd hK (as := [.ref (C c), .ref t, .ref u, .int _]) (st' := [.int _]) ti_68_424 ow_68 iv_5_51 mc_68 ms_68 rfl rfl (by omega) (Nat.le_of_ble_eq_true rfl) (Nat.le_of_ble_eq_true rfl) (by omega) (by omega) hR.ob ?_
                              refine sp_X5_score (by omega) c i t u (l_age l i) hW hR (by omega) (by omega) ht hU ?_
                              refine k_icmp_eq hK ti_68_427 jt_427_5 (fun c_427 => ?_) (fun c_427 => ?_)
                              · refine k_iinc hK (L' := [some (.ref S), some (.ref 0), some (.ref u), some (.ref q), some (.int _), some (.int _), some (.int _), some (.int _), some (.ref (C c)), some (.ref f), some (.int _), some (.int _), some (.int (nI (i + 1))), v13, v14]) ti_68_432 rfl (by rw [kI_1, nI_add]) rfl ?_
                                refine k_goto hK ti_68_435 jt_435_m85 ?_
                                refine k_wid hK (c' := 38 + 34 * g_nA s + 137 * c + 34 + 3 * (i + 1)) (q' := 480 + 216 * g_nA s + 1518 * c + 676 + 32 * (i + 1)) (by omega) (by omega) ?_
                                exact ihh (i + 1) _ _ (by omega) (by omega) hJ hk hU hq hf
                              · exact absurd rfl c_427
                            · refine k_iconst hK ti_68_391 kI_1 ?_
                              refine k_goto hK ti_68_392 jt_392_4 ?_
                              refine k_iadd hK (z := (nI (cnt (i + 1) (fit s l c)))) ti_68_396 (by rw [nI_add, cnt_t (FT_nn.mp c_388)]) ?_
                              refine k_istore hK (L' := [some (.ref S), some (.ref 0), some (.ref u), some (.ref q), some (.int _), some (.int _), some (.int _), some (.int _), some (.ref (C c)), some (.ref f), some (.int _), some (.int _), some (.int _), v13, v14]) ti_68_397 rfl ?_
                              refine k_aload_n hK ti_68_399 rfl ?_
                              refine k_iload hK ti_68_400 rfl ?_
                              refine k_iload hK ti_68_402 rfl ?_
                              refine k_callV hK (as := [.int _, .int _]) (st' := []) ti_68_404 ow_68 iv_5_93 mc_68 ms_68 rfl rfl (by omega) (Nat.le_of_ble_eq_true rfl) (Nat.le_of_ble_eq_true rfl) (by omega) (by omega) (by omega) rfl ?_
                              refine cf_score (by omega) c i hJ (by omega) (by omega) (fun M_404 hJ_404 => ?_)
                              replace hJ := hJ_404
                              refine k_aload_n hK ti_68_407 rfl ?_
                              refine k_aload hK ti_68_408 rfl ?_
                              refine k_aload_n hK ti_68_410 rfl ?_
                              refine k_iload hK ti_68_411 rfl ?_
                              refine k_callVd hK (as := [.int _]) (st' := [.ref (C c), .ref S, .int _]) ti_68_413 ow_68 iv_5_40 mc_68 ms_68 rfl rfl (by omega) (Nat.le_of_ble_eq_true rfl) (Nat.le_of_ble_eq_true rfl) (by omega) (by omega) hR.ob ?_
                              refine sp_X5_table (by omega) i hW hR (by omega) (fun t o_413 f_413 k_413 a_413 => ?_)
                              have n_t : o t = none := hk.nn f_413
                              have d_u_t : u ≠ t := sm_ne hU.sm f_413
                              replace hU := hU.kp k_413
                              have d_q_t : q ≠ t := sm_ne hq.sm f_413
                              replace hq := hq.kp k_413
                              have d_f_t : f ≠ t := sm_ne hf.sm f_413
                              replace hf := hf.kp k_413
                              replace hk := hk.trans k_413
                              have hR := hR0.kp hk
                              have ht := a_413
                              refine k_aload_n hK ti_68_416 rfl ?_
                              refine k_aload_n hK ti_68_417 rfl ?_
                              refine n_get hK (.ref ha) ti_68_418 ow_68 fd_5_18 hR.ob rfl ?_
                              refine k_iload hK ti_68_421 rfl ?_
                              refine n_iald hK ((l_age l i)) i ti_68_423 hR.age (by omega) rfl (by omega) rfl ?_
                              refine k_callVd hK (as := [.ref (C c), .ref t, .ref u, .int _]) (st' := [.int _]) ti_68_424 ow_68 iv_5_51 mc_68 ms_68 rfl rfl (by omega) (Nat.le_of_ble_eq_true rfl) (Nat.le_of_ble_eq_true rfl) (by omega) (by omega) hR.ob ?_
                              refine sp_X5_score (by omega) c i t u (l_age l i) hW hR (by omega) (by omega) ht hU ?_
                              refine k_icmp_eq hK ti_68_427 jt_427_5 (fun c_427 => ?_) (fun c_427 => ?_)
                              · refine k_iinc hK (L' := [some (.ref S), some (.ref 0), some (.ref u), some (.ref q), some (.int _), some (.int _), some (.int _), some (.int _), some (.ref (C c)), some (.ref f), some (.int _), some (.int _), some (.int (nI (i + 1))), v13, v14]) ti_68_432 rfl (by rw [kI_1, nI_add]) rfl ?_
                                refine k_goto hK ti_68_435 jt_435_m85 ?_
                                refine k_wid hK (c' := 38 + 34 * g_nA s + 137 * c + 34 + 3 * (i + 1)) (q' := 480 + 216 * g_nA s + 1518 * c + 676 + 32 * (i + 1)) (by omega) (by omega) ?_
                                exact ihh (i + 1) _ _ (by omega) (by omega) hJ hk hU hq hf
                              · exact absurd rfl c_427
                          · refine k_iconst hK ti_68_373 kI_1 ?_
                            refine k_goto hK ti_68_374 jt_374_4 ?_
                            refine k_iadd hK (z := (nI (cnt (i + 1) (fun a => bit (l_sent l c) a)))) ti_68_378 (by rw [nI_add, cnt_t (by simp [c_370])]) ?_
                            refine k_istore hK (L' := [some (.ref S), some (.ref 0), some (.ref u), some (.ref q), some (.int _), some (.int _), some (.int _), some (.int _), some (.ref (C c)), some (.ref f), some (.int _), some (.int _), some (.int _), v13, v14]) ti_68_379 rfl ?_
                            refine k_iload hK ti_68_381 rfl ?_
                            refine k_aload hK ti_68_383 rfl ?_
                            refine k_iload hK ti_68_385 rfl ?_
                            refine n_iald hK ((FT s l c i)) i ti_68_387 hf (by omega) rfl (by omega) rfl ?_
                            refine k_if_lt hK ti_68_388 jt_388_7 (fun c_388 => ?_) (fun c_388 => ?_)
                            · refine k_iconst hK ti_68_395 kI_0 ?_
                              refine k_iadd hK (z := (nI (cnt (i + 1) (fit s l c)))) ti_68_396 (by rw [nI_add, Nat.add_zero, cnt_f (FT_neg.mp c_388)]) ?_
                              refine k_istore hK (L' := [some (.ref S), some (.ref 0), some (.ref u), some (.ref q), some (.int _), some (.int _), some (.int _), some (.int _), some (.ref (C c)), some (.ref f), some (.int _), some (.int _), some (.int _), v13, v14]) ti_68_397 rfl ?_
                              refine k_aload_n hK ti_68_399 rfl ?_
                              refine k_iload hK ti_68_400 rfl ?_
                              refine k_iload hK ti_68_402 rfl ?_
                              refine k_callV hK (as := [.int _, .int _]) (st' := []) ti_68_404 ow_68 iv_5_93 mc_68 ms_68 rfl rfl (by omega) (Nat.le_of_ble_eq_true rfl) (Nat.le_of_ble_eq_true rfl) (by omega) (by omega) (by omega) rfl ?_
                              refine cf_score (by omega) c i hJ (by omega) (by omega) (fun M_404 hJ_404 => ?_)
                              replace hJ := hJ_404
                              refine k_aload_n hK ti_68_407 rfl ?_
                              refine k_aload hK ti_68_408 rfl ?_
                              refine k_aload_n hK ti_68_410 rfl ?_
                              refine k_iload hK ti_68_411 rfl ?_
                              refine k_callVd hK (as := [.int _]) (st' := [.ref (C c), .ref S, .int _]) ti_68_413 ow_68 iv_5_40 mc_68 ms_68 rfl rfl (by omega) (Nat.le_of_ble_eq_true rfl) (Nat.le_of_ble_eq_true rfl) (by omega) (by omega) hR.ob ?_
                              refine sp_X5_table (by omega) i hW hR (by omega) (fun t o_413 f_413 k_413 a_413 => ?_)
                              have n_t : o t = none := hk.nn f_413
                              have d_u_t : u ≠ t := sm_ne hU.sm f_413
                              replace hU := hU.kp k_413
                              have d_q_t : q ≠ t := sm_ne hq.sm f_413
                              replace hq := hq.kp k_413
                              have d_f_t : f ≠ t := sm_ne hf.sm f_413
                              replace hf := hf.kp k_413
                              replace hk := hk.trans k_413
                              have hR := hR0.kp hk
                              have ht := a_413
                              refine k_aload_n hK ti_68_416 rfl ?_
                              refine k_aload_n hK ti_68_417 rfl ?_
                              refine n_get hK (.ref ha) ti_68_418 ow_68 fd_5_18 hR.ob rfl ?_
                              refine k_iload hK ti_68_421 rfl ?_
                              refine n_iald hK ((l_age l i)) i ti_68_423 hR.age (by omega) rfl (by omega) rfl ?_
                              refine k_callVd hK (as := [.ref (C c), .ref t, .ref u, .int _]) (st' := [.int _]) ti_68_424 ow_68 iv_5_51 mc_68 ms_68 rfl rfl (by omega) (Nat.le_of_ble_eq_true rfl) (Nat.le_of_ble_eq_true rfl) (by omega) (by omega) hR.ob ?_
                              refine sp_X5_score (by omega) c i t u (l_age l i) hW hR (by omega) (by omega) ht hU ?_
                              refine k_icmp_eq hK ti_68_427 jt_427_5 (fun c_427 => ?_) (fun c_427 => ?_)
                              · refine k_iinc hK (L' := [some (.ref S), some (.ref 0), some (.ref u), some (.ref q), some (.int _), some (.int _), some (.int _), some (.int _), some (.ref (C c)), some (.ref f), some (.int _), some (.int _), some (.int (nI (i + 1))), v13, v14]) ti_68_432 rfl (by rw [kI_1, nI_add]) rfl ?_
                                refine k_goto hK ti_68_435 jt_435_m85 ?_
                                refine k_wid hK (c' := 38 + 34 * g_nA s + 137 * c + 34 + 3 * (i + 1)) (q' := 480 + 216 * g_nA s + 1518 * c + 676 + 32 * (i + 1)) (by omega) (by omega) ?_
                                exact ihh (i + 1) _ _ (by omega) (by omega) hJ hk hU hq hf
                              · exact absurd rfl c_427
                            · refine k_iconst hK ti_68_391 kI_1 ?_
                              refine k_goto hK ti_68_392 jt_392_4 ?_
                              refine k_iadd hK (z := (nI (cnt (i + 1) (fit s l c)))) ti_68_396 (by rw [nI_add, cnt_t (FT_nn.mp c_388)]) ?_
                              refine k_istore hK (L' := [some (.ref S), some (.ref 0), some (.ref u), some (.ref q), some (.int _), some (.int _), some (.int _), some (.int _), some (.ref (C c)), some (.ref f), some (.int _), some (.int _), some (.int _), v13, v14]) ti_68_397 rfl ?_
                              refine k_aload_n hK ti_68_399 rfl ?_
                              refine k_iload hK ti_68_400 rfl ?_
                              refine k_iload hK ti_68_402 rfl ?_
                              refine k_callV hK (as := [.int _, .int _]) (st' := []) ti_68_404 ow_68 iv_5_93 mc_68 ms_68 rfl rfl (by omega) (Nat.le_of_ble_eq_true rfl) (Nat.le_of_ble_eq_true rfl) (by omega) (by omega) (by omega) rfl ?_
                              refine cf_score (by omega) c i hJ (by omega) (by omega) (fun M_404 hJ_404 => ?_)
                              replace hJ := hJ_404
                              refine k_aload_n hK ti_68_407 rfl ?_
                              refine k_aload hK ti_68_408 rfl ?_
                              refine k_aload_n hK ti_68_410 rfl ?_
                              refine k_iload hK ti_68_411 rfl ?_
                              refine k_callVd hK (as := [.int _]) (st' := [.ref (C c), .ref S, .int _]) ti_68_413 ow_68 iv_5_40 mc_68 ms_68 rfl rfl (by omega) (Nat.le_of_ble_eq_true rfl) (Nat.le_of_ble_eq_true rfl) (by omega) (by omega) hR.ob ?_
                              refine sp_X5_table (by omega) i hW hR (by omega) (fun t o_413 f_413 k_413 a_413 => ?_)
                              have n_t : o t = none := hk.nn f_413
                              have d_u_t : u ≠ t := sm_ne hU.sm f_413
                              replace hU := hU.kp k_413
                              have d_q_t : q ≠ t := sm_ne hq.sm f_413
                              replace hq := hq.kp k_413
                              have d_f_t : f ≠ t := sm_ne hf.sm f_413
                              replace hf := hf.kp k_413
                              replace hk := hk.trans k_413
                              have hR := hR0.kp hk
                              have ht := a_413
                              refine k_aload_n hK ti_68_416 rfl ?_
                              refine k_aload_n hK ti_68_417 rfl ?_
                              refine n_get hK (.ref ha) ti_68_418 ow_68 fd_5_18 hR.ob rfl ?_
                              refine k_iload hK ti_68_421 rfl ?_
                              refine n_iald hK ((l_age l i)) i ti_68_423 hR.age (by omega) rfl (by omega) rfl ?_
                              refine k_callVd hK (as := [.ref (C c), .ref t, .ref u, .int _]) (st' := [.int _]) ti_68_424 ow_68 iv_5_51 mc_68 ms_68 rfl rfl (by omega) (Nat.le_of_ble_eq_true rfl) (Nat.le_of_ble_eq_true rfl) (by omega) (by omega) hR.ob ?_
                              refine sp_X5_score (by omega) c i t u (l_age l i) hW hR (by omega) (by omega) ht hU ?_
                              refine k_icmp_eq hK ti_68_427 jt_427_5 (fun c_427 => ?_) (fun c_427 => ?_)
                              · refine k_iinc hK (L' := [some (.ref S), some (.ref 0), some (.ref u), some (.ref q), some (.int _), some (.int _), some (.int _), some (.int _), some (.ref (C c)), some (.ref f), some (.int _), some (.int _), some (.int (nI (i + 1))), v13, v14]) ti_68_432 rfl (by rw [kI_1, nI_add]) rfl ?_
                                refine k_goto hK ti_68_435 jt_435_m85 ?_
                                refine k_wid hK (c' := 38 + 34 * g_nA s + 137 * c + 34 + 3 * (i + 1)) (q' := 480 + 216 * g_nA s + 1518 * c + 676 + 32 * (i + 1)) (by omega) (by omega) ?_
                                exact ihh (i + 1) _ _ (by omega) (by omega) hJ hk hU hq hf
                              · exact absurd rfl c_427
                        · obtain rfl : i = g_nA s := by omega
                          refine k_bipush hK ti_68_438 kB_6 ?_
                          refine n_newI hK 6 ti_68_440 mc_68 ms_68 rfl (by omega) (by omega) (by omega) (fun r o_440 f_440 k_440 a_440 => ?_)
                          have n_r : o r = none := hk.nn f_440
                          have d_u_r : u ≠ r := sm_ne hU.sm f_440
                          replace hU := hU.kp k_440
                          have d_q_r : q ≠ r := sm_ne hq.sm f_440
                          replace hq := hq.kp k_440
                          have d_f_r : f ≠ r := sm_ne hf.sm f_440
                          replace hf := hf.kp k_440
                          replace hk := hk.trans k_440
                          have hR := hR0.kp hk
                          have hr := a_440
                          refine k_dup hK ti_68_442 rfl ?_
                          refine k_iconst hK ti_68_443 kI_0 ?_
                          refine k_aload hK ti_68_444 rfl ?_
                          refine n_get hK (.int (l_coin l c)) ti_68_446 ow_68 fd_5_70 (hR.cl c (by omega)) rfl ?_
                          refine n_iast hK 0 ti_68_449 hr (by omega) rfl (by omega) (fun o_449 w_449 a_449 => ?_)
                          replace hk := hk.wr n_r w_449
                          replace hU := hU.wr w_449 d_u_r
                          replace hq := hq.wr w_449 d_q_r
                          replace hf := hf.wr w_449 d_f_r
                          have hR := hR0.kp hk
                          replace hr := a_449
                          refine k_dup hK ti_68_450 rfl ?_
                          refine k_iconst hK ti_68_451 kI_1 ?_
                          refine k_aload hK ti_68_452 rfl ?_
                          refine n_get hK (.ref (V c)) ti_68_454 ow_68 fd_5_44 (hR.cl c (by omega)) rfl ?_
                          refine n_alenI hK ti_68_457 (hR.wi c (by omega)) ?_
                          refine n_iast hK 1 ti_68_458 hr (by omega) rfl (by omega) (fun o_458 w_458 a_458 => ?_)
                          replace hk := hk.wr n_r w_458
                          replace hU := hU.wr w_458 d_u_r
                          replace hq := hq.wr w_458 d_q_r
                          replace hf := hf.wr w_458 d_f_r
                          have hR := hR0.kp hk
                          replace hr := a_458
                          refine k_dup hK ti_68_459 rfl ?_
                          refine k_iconst hK ti_68_460 kI_2 ?_
                          refine k_aload hK ti_68_461 rfl ?_
                          refine n_get hK (.int (g_bar s c)) ti_68_463 ow_68 fd_5_59 (hR.cl c (by omega)) rfl ?_
                          refine n_iast hK 2 ti_68_466 hr (by omega) rfl (by omega) (fun o_466 w_466 a_466 => ?_)
                          replace hk := hk.wr n_r w_466
                          replace hU := hU.wr w_466 d_u_r
                          replace hq := hq.wr w_466 d_q_r
                          replace hf := hf.wr w_466 d_f_r
                          have hR := hR0.kp hk
                          replace hr := a_466
                          refine k_dup hK ti_68_467 rfl ?_
                          refine k_iconst hK ti_68_468 kI_3 ?_
                          refine k_iload hK ti_68_469 rfl ?_
                          refine n_iast hK 3 ti_68_471 hr (by omega) rfl (by omega) (fun o_471 w_471 a_471 => ?_)
                          replace hk := hk.wr n_r w_471
                          replace hU := hU.wr w_471 d_u_r
                          replace hq := hq.wr w_471 d_q_r
                          replace hf := hf.wr w_471 d_f_r
                          have hR := hR0.kp hk
                          replace hr := a_471
                          refine k_dup hK ti_68_472 rfl ?_
                          refine k_iconst hK ti_68_473 kI_4 ?_
                          refine k_aload hK ti_68_474 rfl ?_
                          refine n_get hK (.int (l_paid l c)) ti_68_476 ow_68 fd_5_73 (hR.cl c (by omega)) rfl ?_
                          refine n_iast hK 4 ti_68_479 hr (by omega) rfl (by omega) (fun o_479 w_479 a_479 => ?_)
                          replace hk := hk.wr n_r w_479
                          replace hU := hU.wr w_479 d_u_r
                          replace hq := hq.wr w_479 d_q_r
                          replace hf := hf.wr w_479 d_f_r
                          have hR := hR0.kp hk
                          replace hr := a_479
                          refine k_dup hK ti_68_480 rfl ?_
                          refine k_iconst hK ti_68_481 kI_5 ?_
                          refine k_iload hK ti_68_482 rfl ?_
                          refine n_iast hK 5 ti_68_484 hr (by omega) rfl (by omega) (fun o_484 w_484 a_484 => ?_)
                          replace hk := hk.wr n_r w_484
                          replace hU := hU.wr w_484 d_u_r
                          replace hq := hq.wr w_484 d_q_r
                          replace hf := hf.wr w_484 d_f_r
                          have hR := hR0.kp hk
                          replace hr := a_484
                          replace hr := hr.congr (fun w hw => cT_row (s := s) (l := l) (c := c) w hw)
                          refine k_astore hK (L' := [some (.ref S), some (.ref 0), some (.ref u), some (.ref q), some (.int _), some (.int _), some (.int _), some (.int _), some (.ref (C c)), some (.ref f), some (.int _), some (.int _), some (.ref r), v13, v14]) ti_68_485 rfl ?_
                          refine k_iconst hK ti_68_487 kI_0 ?_
                          refine k_istore hK (L' := [some (.ref S), some (.ref 0), some (.ref u), some (.ref q), some (.int _), some (.int _), some (.int _), some (.int _), some (.ref (C c)), some (.ref f), some (.int _), some (.int _), some (.ref r), some (.int _), v14]) ti_68_488 rfl ?_
                          have loopi : ∀ (fi w : Nat) (M1 : dp_M), w ≤ 6 → 6 - w < fi → (JC M1 s l) → K 490 [some (.ref S), some (.ref 0), some (.ref u), some (.ref q), some (.int (nI (sN (g_nA s) (g_len s)))), some (.int (nI (sN c (snt s l)))), some (.int (sm c (l_paid l))), some (.int (nI c)), some (.ref (C c)), some (.ref f), some (.int (nI (cnt (g_nA s) (fun a => bit (l_sent l c) a)))), some (.int (nI (cnt (g_nA s) (fit s l c)))), some (.ref r), some (.int (nI w)), v14] [] n (38 + 34 * g_nA s + 137 * c + 83 + 2 * w) (480 + 216 * g_nA s + 1518 * c + 1194 + 12 * w) M1 o_484 := by
                            intro fi
                            induction fi with
                            | zero => intro w M1 h1i h2i; omega
                            | succ fi ihi =>
                              intro w M1 h1i h2i hJ
                              refine k_iload hK ti_68_490 rfl ?_
                              refine k_bipush hK ti_68_492 kB_6 ?_
                              refine kn_ge hK (by omega) (by omega) ti_68_494 jt_494_27 (fun c_494 => ?_) (fun c_494 => ?_)
                              · refine k_aload_n hK ti_68_497 rfl ?_
                                refine k_iload hK ti_68_498 rfl ?_
                                refine k_iload hK ti_68_500 rfl ?_
                                refine k_callV hK (as := [.int _, .int _]) (st' := []) ti_68_502 ow_68 iv_5_95 mc_68 ms_68 rfl rfl (by omega) (Nat.le_of_ble_eq_true rfl) (Nat.le_of_ble_eq_true rfl) (by omega) (by omega) (by omega) rfl ?_
                                refine cf_about (by omega) c w hJ (by omega) (by omega) (fun M_502 hJ_502 => ?_)
                                replace hJ := hJ_502
                                refine k_aload hK ti_68_505 rfl ?_
                                refine k_iload hK ti_68_507 rfl ?_
                                refine n_iald hK ((cT s l c w)) w ti_68_509 hr (by omega) rfl (by omega) rfl ?_
                                refine k_icmp_eq hK ti_68_510 jt_510_5 (fun c_510 => ?_) (fun c_510 => ?_)
                                · refine k_iinc hK (L' := [some (.ref S), some (.ref 0), some (.ref u), some (.ref q), some (.int _), some (.int _), some (.int _), some (.int _), some (.ref (C c)), some (.ref f), some (.int _), some (.int _), some (.ref r), some (.int (nI (w + 1))), v14]) ti_68_515 rfl (by rw [kI_1, nI_add]) rfl ?_
                                  refine k_goto hK ti_68_518 jt_518_m28 ?_
                                  refine k_wid hK (c' := 38 + 34 * g_nA s + 137 * c + 83 + 2 * (w + 1)) (q' := 480 + 216 * g_nA s + 1518 * c + 1194 + 12 * (w + 1)) (by omega) (by omega) ?_
                                  exact ihi (w + 1) _ (by omega) (by omega) hJ
                                · exact absurd rfl c_510
                              · obtain rfl : w = 6 := by omega
                                refine k_iconst hK ti_68_521 kI_0 ?_
                                refine k_istore hK (L' := [some (.ref S), some (.ref 0), some (.ref u), some (.ref q), some (.int _), some (.int _), some (.int _), some (.int _), some (.ref (C c)), some (.ref f), some (.int _), some (.int _), some (.ref r), some (.int _), v14]) ti_68_522 rfl ?_
                                have loopj : ∀ (fj g : Nat) (M1 : dp_M), g ≤ (g_many s c) → (g_many s c) - g < fj → (JC M1 s l) → K 524 [some (.ref S), some (.ref 0), some (.ref u), some (.ref q), some (.int (nI (sN (g_nA s) (g_len s)))), some (.int (nI (sN c (snt s l)))), some (.int (sm c (l_paid l))), some (.int (nI c)), some (.ref (C c)), some (.ref f), some (.int (nI (cnt (g_nA s) (fun a => bit (l_sent l c) a)))), some (.int (nI (cnt (g_nA s) (fit s l c)))), some (.ref r), some (.int (nI g)), v14] [] n (38 + 34 * g_nA s + 137 * c + 95 + 2 * g) (480 + 216 * g_nA s + 1518 * c + 1266 + 12 * g) M1 o_484 := by
                                  intro fj
                                  induction fj with
                                  | zero => intro g M1 h1j h2j; omega
                                  | succ fj ihj =>
                                    intro g M1 h1j h2j hJ
                                    refine k_iload hK ti_68_524 rfl ?_
                                    refine k_aload hK ti_68_526 rfl ?_
                                    refine n_get hK (.ref (V c)) ti_68_528 ow_68 fd_5_44 (hR.cl c (by omega)) rfl ?_
                                    refine n_alenI hK ti_68_531 (hR.wi c (by omega)) ?_
                                    refine kn_ge hK (by omega) (by omega) ti_68_532 jt_532_30 (fun c_532 => ?_) (fun c_532 => ?_)
                                    · have hw20 := hW.2.2.2.2.2.2 c g (by omega) c_532
                                      refine k_aload_n hK ti_68_535 rfl ?_
                                      refine k_iload hK ti_68_536 rfl ?_
                                      refine k_iload hK ti_68_538 rfl ?_
                                      refine k_callV hK (as := [.int _, .int _]) (st' := []) ti_68_540 ow_68 iv_5_98 mc_68 ms_68 rfl rfl (by omega) (Nat.le_of_ble_eq_true rfl) (Nat.le_of_ble_eq_true rfl) (by omega) (by omega) (by omega) rfl ?_
                                      refine cf_stem (by omega) c g hJ (by omega) (by omega) (fun M_540 hJ_540 => ?_)
                                      replace hJ := hJ_540
                                      refine k_aload hK ti_68_543 rfl ?_
                                      refine n_get hK (.ref (V c)) ti_68_545 ow_68 fd_5_44 (hR.cl c (by omega)) rfl ?_
                                      refine k_iload hK ti_68_548 rfl ?_
                                      refine n_iald hK ((nI (g_wish s c g))) g ti_68_550 (hR.wi c (by omega)) (by omega) rfl (by omega) rfl ?_
                                      refine kn_eq hK (by omega) (by omega) ti_68_551 jt_551_5 (fun c_551 => ?_) (fun c_551 => ?_)
                                      · refine k_iinc hK (L' := [some (.ref S), some (.ref 0), some (.ref u), some (.ref q), some (.int _), some (.int _), some (.int _), some (.int _), some (.ref (C c)), some (.ref f), some (.int _), some (.int _), some (.ref r), some (.int (nI (g + 1))), v14]) ti_68_556 rfl (by rw [kI_1, nI_add]) rfl ?_
                                        refine k_goto hK ti_68_559 jt_559_m35 ?_
                                        refine k_wid hK (c' := 38 + 34 * g_nA s + 137 * c + 95 + 2 * (g + 1)) (q' := 480 + 216 * g_nA s + 1518 * c + 1266 + 12 * (g + 1)) (by omega) (by omega) ?_
                                        exact ihj (g + 1) _ (by omega) (by omega) hJ
                                      · exact absurd rfl c_551
                                    · have e9 : g = g_many s c := by omega
                                      refine k_iconst hK ti_68_562 kI_0 ?_
                                      refine k_istore hK (L' := [some (.ref S), some (.ref 0), some (.ref u), some (.ref q), some (.int _), some (.int _), some (.int _), some (.int _), some (.ref (C c)), some (.ref f), some (.int _), some (.int _), some (.ref r), some (.int _), v14]) ti_68_563 rfl ?_
                                      have loopk : ∀ (fk p : Nat) (M1 : dp_M) (o2 : dp_O) (v14 : Option Value), p ≤ (fts s l c) → (fts s l c) - p < fk → (JC M1 s l) → (Kp o o2) → (IA o2 u 20 (fun x => nI (rar s x))) → (IA o2 q 20 (fun x => nI (alx s x (g_nA s)))) → (IA o2 f (g_nA s) (vr s l c p)) → K 565 [some (.ref S), some (.ref 0), some (.ref u), some (.ref q), some (.int (nI (sN (g_nA s) (g_len s)))), some (.int (nI (sN c (snt s l)))), some (.int (sm c (l_paid l))), some (.int (nI c)), some (.ref (C c)), some (.ref f), some (.int (nI (cnt (g_nA s) (fun a => bit (l_sent l c) a)))), some (.int (nI (fts s l c))), some (.ref r), some (.int (nI p)), v14] [] n (38 + 34 * g_nA s + 137 * c + 105 + 2 * p) (480 + 216 * g_nA s + 1518 * c + 1326 + 12 * p) M1 o2 := by
                                        intro fk
                                        induction fk with
                                        | zero => intro p M1 o2 v14 h1k h2k; omega
                                        | succ fk ihk =>
                                          intro p M1 o2 v14 h1k h2k hJ hk hU hq hf
                                          have hR := hR0.kp hk
                                          refine k_iload hK ti_68_565 rfl ?_
                                          refine k_iload hK ti_68_567 rfl ?_
                                          refine kn_ge hK (by omega) (by omega) ti_68_569 jt_569_37 (fun c_569 => ?_) (fun c_569 => ?_)
                                          · obtain ⟨b, hb1, hb2, hb3, hb4, hb5⟩ := fA_ex c_569
                                            refine k_aload hK ti_68_572 rfl ?_
                                            refine k_callS hK (as := [.ref f]) (st' := []) ti_68_574 ow_68 iv_5_66 mc_68 ms_68 rfl rfl (by omega) (Nat.le_of_ble_eq_true rfl) (Nat.le_of_ble_eq_true rfl) (by omega) (by omega) ?_
                                            refine sp_X5_best (by omega) f (g_nA s) (vr s l c p) (by omega) hf (k_aftv (nI b) (by rw [hb5]; rfl) ?_)
                                            refine k_istore hK (L' := [some (.ref S), some (.ref 0), some (.ref u), some (.ref q), some (.int _), some (.int _), some (.int _), some (.int _), some (.ref (C c)), some (.ref f), some (.int _), some (.int _), some (.ref r), some (.int _), some (.int _)]) ti_68_577 rfl ?_
                                            refine k_aload_n hK ti_68_579 rfl ?_
                                            refine k_iload hK ti_68_580 rfl ?_
                                            refine k_iload hK ti_68_582 rfl ?_
                                            refine k_callV hK (as := [.int _, .int _]) (st' := []) ti_68_584 ow_68 iv_5_101 mc_68 ms_68 rfl rfl (by omega) (Nat.le_of_ble_eq_true rfl) (Nat.le_of_ble_eq_true rfl) (by omega) (by omega) (by omega) rfl ?_
                                            refine cf_fit (by omega) c p hJ (by omega) (by omega) (fun M_584 hJ_584 => k_aftv (nI b) (by rw [hb4]; rfl) ?_)
                                            replace hJ := hJ_584
                                            refine k_iload hK ti_68_587 rfl ?_
                                            refine kn_eq hK (by omega) (by omega) ti_68_589 jt_589_5 (fun c_589 => ?_) (fun c_589 => ?_)
                                            · refine k_aload hK ti_68_594 rfl ?_
                                              refine k_iload hK ti_68_596 rfl ?_
                                              refine k_iconst hK ti_68_598 kI_m1 ?_
                                              refine n_iast hK b ti_68_599 hf (by omega) rfl (by omega) (fun o_599 w_599 a_599 => ?_)
                                              replace hk := hk.wr n_f w_599
                                              replace hU := hU.wr w_599 d_u_f
                                              replace hq := hq.wr w_599 d_q_f
                                              have hR := hR0.kp hk
                                              replace hf := a_599
                                              refine k_iinc hK (L' := [some (.ref S), some (.ref 0), some (.ref u), some (.ref q), some (.int _), some (.int _), some (.int _), some (.int _), some (.ref (C c)), some (.ref f), some (.int _), some (.int _), some (.ref r), some (.int (nI (p + 1))), some (.int _)]) ti_68_600 rfl (by rw [kI_1, nI_add]) rfl ?_
                                              refine k_goto hK ti_68_603 jt_603_m38 ?_
                                              refine k_wid hK (c' := 38 + 34 * g_nA s + 137 * c + 105 + 2 * (p + 1)) (q' := 480 + 216 * g_nA s + 1518 * c + 1326 + 12 * (p + 1)) (by omega) (by omega) ?_
                                              exact ihk (p + 1) _ _ _ (by omega) (by omega) hJ hk hU hq (hf.congr (fun k hk9 => vr_next hb1 hk9 hb2 hb3))
                                            · exact absurd rfl c_589
                                          · have e9 : p = fts s l c := by omega
                                            refine k_iload hK ti_68_606 rfl ?_
                                            refine k_iload hK ti_68_608 rfl ?_
                                            refine k_iadd hK (z := (nI (sN (c + 1) (snt s l)))) ti_68_610 (nI_add _ _) ?_
                                            refine k_istore hK (L' := [some (.ref S), some (.ref 0), some (.ref u), some (.ref q), some (.int _), some (.int _), some (.int _), some (.int _), some (.ref (C c)), some (.ref f), some (.int _), some (.int _), some (.ref r), some (.int _), v14]) ti_68_611 rfl ?_
                                            refine k_iload hK ti_68_613 rfl ?_
                                            refine k_aload hK ti_68_615 rfl ?_
                                            refine n_get hK (.int (l_paid l c)) ti_68_617 ow_68 fd_5_73 (hR.cl c (by omega)) rfl ?_
                                            refine k_iadd hK (z := (sm (c + 1) (l_paid l))) ti_68_620 rfl ?_
                                            refine k_istore hK (L' := [some (.ref S), some (.ref 0), some (.ref u), some (.ref q), some (.int _), some (.int _), some (.int _), some (.int _), some (.ref (C c)), some (.ref f), some (.int _), some (.int _), some (.ref r), some (.int _), v14]) ti_68_621 rfl ?_
                                            refine k_iinc hK (L' := [some (.ref S), some (.ref 0), some (.ref u), some (.ref q), some (.int _), some (.int _), some (.int _), some (.int (nI (c + 1))), some (.ref (C c)), some (.ref f), some (.int _), some (.int _), some (.ref r), some (.int _), v14]) ti_68_623 rfl (by rw [kI_1, nI_add]) rfl ?_
                                            refine k_goto hK ti_68_626 jt_626_m312 ?_
                                            refine k_wid hK (c' := 38 + 34 * g_nA s + 137 * (c + 1)) (q' := 480 + 216 * g_nA s + 1518 * (c + 1)) (by omega) (by omega) ?_
                                            exact ihg (c + 1) _ _ _ _ _ _ _ _ _ (by omega) (by omega) hJ hk hU hq
                                      refine k_wid hK (c' := 38 + 34 * g_nA s + 137 * c + 105 + 2 * 0) (q' := 480 + 216 * g_nA s + 1518 * c + 1326 + 12 * 0) (by omega) (by omega) ?_
                                      exact loopk ((fts s l c) - 0 + 1) 0 _ _ _ (by omega) (by omega) hJ hk hU hq (hf.congr (fun k hk9 => (vr_0 k).symm))
                                refine k_wid hK (c' := 38 + 34 * g_nA s + 137 * c + 95 + 2 * 0) (q' := 480 + 216 * g_nA s + 1518 * c + 1266 + 12 * 0) (by omega) (by omega) ?_
                                exact loopj ((g_many s c) - 0 + 1) 0 _ (by omega) (by omega) hJ
                          refine k_wid hK (c' := 38 + 34 * g_nA s + 137 * c + 83 + 2 * 0) (q' := 480 + 216 * g_nA s + 1518 * c + 1194 + 12 * 0) (by omega) (by omega) ?_
                          exact loopi (6 - 0 + 1) 0 _ (by omega) (by omega) hJ
                    refine k_wid hK (c' := 38 + 34 * g_nA s + 137 * c + 34 + 3 * 0) (q' := 480 + 216 * g_nA s + 1518 * c + 676 + 32 * 0) (by omega) (by omega) ?_
                    exact looph ((g_nA s) - 0 + 1) 0 _ _ (by omega) (by omega) hJ hk hU hq hf
                  · obtain rfl : c = g_nC s := by omega
                    refine k_iconst hK ti_68_629 kI_0 ?_
                    refine k_istore hK (L' := [some (.ref S), some (.ref 0), some (.ref u), some (.ref q), some (.int _), some (.int _), some (.int _), some (.int _), v8, v9, v10, v11, v12, v13, v14]) ti_68_630 rfl ?_
                    refine k_aload_n hK ti_68_632 rfl ?_
                    refine k_astore hK (L' := [some (.ref S), some (.ref 0), some (.ref u), some (.ref q), some (.int _), some (.int _), some (.int _), some (.int _), some (.ref q), v9, v10, v11, v12, v13, v14]) ti_68_633 rfl ?_
                    refine k_aload hK ti_68_635 rfl ?_
                    refine n_alenI hK ti_68_637 hq ?_
                    refine k_istore hK (L' := [some (.ref S), some (.ref 0), some (.ref u), some (.ref q), some (.int _), some (.int _), some (.int _), some (.int _), some (.ref q), some (.int _), v10, v11, v12, v13, v14]) ti_68_638 rfl ?_
                    refine k_iconst hK ti_68_640 kI_0 ?_
                    refine k_istore hK (L' := [some (.ref S), some (.ref 0), some (.ref u), some (.ref q), some (.int _), some (.int _), some (.int _), some (.int _), some (.ref q), some (.int _), some (.int _), v11, v12, v13, v14]) ti_68_641 rfl ?_
                    have loopl : ∀ (fl x : Nat) (v11 : Option Value), x ≤ 20 → 20 - x < fl → K 643 [some (.ref S), some (.ref 0), some (.ref u), some (.ref q), some (.int (nI (sN (g_nA s) (g_len s)))), some (.int (nI (sN (g_nC s) (snt s l)))), some (.int (sm (g_nC s) (l_paid l))), some (.int (nI (cnt x (fun x => decide (0 < hvn s x))))), some (.ref q), some (.int (nI 20)), some (.int (nI x)), v11, v12, v13, v14] [] n (38 + 34 * g_nA s + 137 * g_nC s) (480 + 216 * g_nA s + 1518 * g_nC s) M1 o2 := by
                      intro fl
                      induction fl with
                      | zero => intro x v11 h1l h2l; omega
                      | succ fl ihl =>
                        intro x v11 h1l h2l
                        refine k_iload hK ti_68_643 rfl ?_
                        refine k_iload hK ti_68_645 rfl ?_
                        refine kn_ge hK (by omega) (by omega) ti_68_647 jt_647_31 (fun c_647 => ?_) (fun c_647 => ?_)
                        · have hal := alx_le hW x hA16
                          refine k_aload hK ti_68_650 rfl ?_
                          refine k_iload hK ti_68_652 rfl ?_
                          refine n_iald hK ((nI (alx s x (g_nA s)))) x ti_68_654 hq (by omega) rfl (by omega) rfl ?_
                          refine k_istore hK (L' := [some (.ref S), some (.ref 0), some (.ref u), some (.ref q), some (.int _), some (.int _), some (.int _), some (.int _), some (.ref q), some (.int _), some (.int _), some (.int _), v12, v13, v14]) ti_68_655 rfl ?_
                          refine k_iload hK ti_68_657 rfl ?_
                          refine k_iload hK ti_68_659 rfl ?_
                          refine kz_le hK (by omega) ti_68_661 jt_661_7 (fun c_661 => ?_) (fun c_661 => ?_)
                          · refine k_iconst hK ti_68_664 kI_1 ?_
                            refine k_goto hK ti_68_665 jt_665_4 ?_
                            refine k_iadd hK (z := (nI (cnt (x + 1) (fun x => decide (0 < hvn s x))))) ti_68_669 (by rw [nI_add, cnt_t (by rw [← alx_hvn]; simp [c_661])]) ?_
                            refine k_istore hK (L' := [some (.ref S), some (.ref 0), some (.ref u), some (.ref q), some (.int _), some (.int _), some (.int _), some (.int _), some (.ref q), some (.int _), some (.int _), some (.int _), v12, v13, v14]) ti_68_670 rfl ?_
                            refine k_iinc hK (L' := [some (.ref S), some (.ref 0), some (.ref u), some (.ref q), some (.int _), some (.int _), some (.int _), some (.int _), some (.ref q), some (.int _), some (.int (nI (x + 1))), some (.int _), v12, v13, v14]) ti_68_672 rfl (by rw [kI_1, nI_add]) rfl ?_
                            refine k_goto hK ti_68_675 jt_675_m32 ?_
                            exact ihl (x + 1) _ (by omega) (by omega) 
                          · refine k_iconst hK ti_68_668 kI_0 ?_
                            refine k_iadd hK (z := (nI (cnt (x + 1) (fun x => decide (0 < hvn s x))))) ti_68_669 (by rw [nI_add, Nat.add_zero, cnt_f (by rw [← alx_hvn]; simp [c_661])]) ?_
                            refine k_istore hK (L' := [some (.ref S), some (.ref 0), some (.ref u), some (.ref q), some (.int _), some (.int _), some (.int _), some (.int _), some (.ref q), some (.int _), some (.int _), some (.int _), v12, v13, v14]) ti_68_670 rfl ?_
                            refine k_iinc hK (L' := [some (.ref S), some (.ref 0), some (.ref u), some (.ref q), some (.int _), some (.int _), some (.int _), some (.int _), some (.ref q), some (.int _), some (.int (nI (x + 1))), some (.int _), v12, v13, v14]) ti_68_672 rfl (by rw [kI_1, nI_add]) rfl ?_
                            refine k_goto hK ti_68_675 jt_675_m32 ?_
                            exact ihl (x + 1) _ (by omega) (by omega) 
                        · obtain rfl : x = 20 := by omega
                          refine k_bipush hK ti_68_678 kB_7 ?_
                          refine n_newI hK 7 ti_68_680 mc_68 ms_68 rfl (by omega) (by omega) (by omega) (fun r o_680 f_680 k_680 a_680 => ?_)
                          have n_r : o r = none := hk.nn f_680
                          have d_u_r : u ≠ r := sm_ne hU.sm f_680
                          replace hU := hU.kp k_680
                          have d_q_r : q ≠ r := sm_ne hq.sm f_680
                          replace hq := hq.kp k_680
                          replace hk := hk.trans k_680
                          have hR := hR0.kp hk
                          have hr := a_680
                          refine k_dup hK ti_68_682 rfl ?_
                          refine k_iconst hK ti_68_683 kI_0 ?_
                          refine k_aload_n hK ti_68_684 rfl ?_
                          refine n_get hK (.ref hw) ti_68_685 ow_68 fd_5_14 hR.ob rfl ?_
                          refine n_alenR hK ti_68_688 hR.rw ?_
                          refine n_iast hK 0 ti_68_689 hr (by omega) rfl (by omega) (fun o_689 w_689 a_689 => ?_)
                          replace hk := hk.wr n_r w_689
                          replace hU := hU.wr w_689 d_u_r
                          replace hq := hq.wr w_689 d_q_r
                          have hR := hR0.kp hk
                          replace hr := a_689
                          refine k_dup hK ti_68_690 rfl ?_
                          refine k_iconst hK ti_68_691 kI_1 ?_
                          refine k_aload_n hK ti_68_692 rfl ?_
                          refine n_get hK (.ref hc) ti_68_693 ow_68 fd_5_23 hR.ob rfl ?_
                          refine n_alenR hK ti_68_696 hR.rc ?_
                          refine n_iast hK 1 ti_68_697 hr (by omega) rfl (by omega) (fun o_697 w_697 a_697 => ?_)
                          replace hk := hk.wr n_r w_697
                          replace hU := hU.wr w_697 d_u_r
                          replace hq := hq.wr w_697 d_q_r
                          have hR := hR0.kp hk
                          replace hr := a_697
                          refine k_dup hK ti_68_698 rfl ?_
                          refine k_iconst hK ti_68_699 kI_2 ?_
                          refine k_iload hK ti_68_700 rfl ?_
                          refine n_iast hK 2 ti_68_702 hr (by omega) rfl (by omega) (fun o_702 w_702 a_702 => ?_)
                          replace hk := hk.wr n_r w_702
                          replace hU := hU.wr w_702 d_u_r
                          replace hq := hq.wr w_702 d_q_r
                          have hR := hR0.kp hk
                          replace hr := a_702
                          refine k_dup hK ti_68_703 rfl ?_
                          refine k_iconst hK ti_68_704 kI_3 ?_
                          refine k_iload hK ti_68_705 rfl ?_
                          refine n_iast hK 3 ti_68_707 hr (by omega) rfl (by omega) (fun o_707 w_707 a_707 => ?_)
                          replace hk := hk.wr n_r w_707
                          replace hU := hU.wr w_707 d_u_r
                          replace hq := hq.wr w_707 d_q_r
                          have hR := hR0.kp hk
                          replace hr := a_707
                          refine k_dup hK ti_68_708 rfl ?_
                          refine k_iconst hK ti_68_709 kI_4 ?_
                          refine k_aload_n hK ti_68_710 rfl ?_
                          refine n_get hK (.int (l_rnd l)) ti_68_711 ow_68 fd_5_36 hR.ob rfl ?_
                          refine n_iast hK 4 ti_68_714 hr (by omega) rfl (by omega) (fun o_714 w_714 a_714 => ?_)
                          replace hk := hk.wr n_r w_714
                          replace hU := hU.wr w_714 d_u_r
                          replace hq := hq.wr w_714 d_q_r
                          have hR := hR0.kp hk
                          replace hr := a_714
                          refine k_dup hK ti_68_715 rfl ?_
                          refine k_iconst hK ti_68_716 kI_5 ?_
                          refine k_iload hK ti_68_717 rfl ?_
                          refine n_iast hK 5 ti_68_719 hr (by omega) rfl (by omega) (fun o_719 w_719 a_719 => ?_)
                          replace hk := hk.wr n_r w_719
                          replace hU := hU.wr w_719 d_u_r
                          replace hq := hq.wr w_719 d_q_r
                          have hR := hR0.kp hk
                          replace hr := a_719
                          refine k_dup hK ti_68_720 rfl ?_
                          refine k_bipush hK ti_68_721 kB_6 ?_
                          refine k_iload hK ti_68_723 rfl ?_
                          refine n_iast hK 6 ti_68_725 hr (by omega) rfl (by omega) (fun o_725 w_725 a_725 => ?_)
                          replace hk := hk.wr n_r w_725
                          replace hU := hU.wr w_725 d_u_r
                          replace hq := hq.wr w_725 d_q_r
                          have hR := hR0.kp hk
                          replace hr := a_725
                          replace hr := hr.congr (fun w hw => nT_row (s := s) (l := l) w hw)
                          refine k_astore hK (L' := [some (.ref S), some (.ref 0), some (.ref u), some (.ref q), some (.int _), some (.int _), some (.int _), some (.int _), some (.ref r), some (.int _), some (.int _), v11, v12, v13, v14]) ti_68_726 rfl ?_
                          refine k_iconst hK ti_68_728 kI_0 ?_
                          refine k_istore hK (L' := [some (.ref S), some (.ref 0), some (.ref u), some (.ref q), some (.int _), some (.int _), some (.int _), some (.int _), some (.ref r), some (.int _), some (.int _), v11, v12, v13, v14]) ti_68_729 rfl ?_
                          have loopm : ∀ (fm w : Nat) (M1 : dp_M) (v10 : Option Value) (v11 : Option Value), w ≤ 7 → 7 - w < fm → (JC M1 s l) → K 731 [some (.ref S), some (.ref 0), some (.ref u), some (.ref q), some (.int (nI (sN (g_nA s) (g_len s)))), some (.int (nI (sN (g_nC s) (snt s l)))), some (.int (sm (g_nC s) (l_paid l))), some (.int (nI (cnt 20 (fun x => decide (0 < hvn s x))))), some (.ref r), some (.int (nI w)), v10, v11, v12, v13, v14] [] n (38 + 34 * g_nA s + 137 * g_nC s + (1 + w)) (480 + 216 * g_nA s + 1518 * g_nC s + (7 + 6 * w)) M1 o_725 := by
                            intro fm
                            induction fm with
                            | zero => intro w M1 v10 v11 h1m h2m; omega
                            | succ fm ihm =>
                              intro w M1 v10 v11 h1m h2m hJ
                              refine k_iload hK ti_68_731 rfl ?_
                              refine k_bipush hK ti_68_733 kB_7 ?_
                              refine kn_ge hK (by omega) (by omega) ti_68_735 jt_735_25 (fun c_735 => ?_) (fun c_735 => ?_)
                              · refine k_aload_n hK ti_68_738 rfl ?_
                                refine k_iload hK ti_68_739 rfl ?_
                                refine k_callV hK (as := [.int _]) (st' := []) ti_68_741 ow_68 iv_5_104 mc_68 ms_68 rfl rfl (by omega) (Nat.le_of_ble_eq_true rfl) (Nat.le_of_ble_eq_true rfl) (by omega) (by omega) (by omega) rfl ?_
                                refine cf_count (by omega) w hJ (by omega) (fun M_741 hJ_741 => ?_)
                                replace hJ := hJ_741
                                refine k_aload hK ti_68_744 rfl ?_
                                refine k_iload hK ti_68_746 rfl ?_
                                refine n_iald hK ((nT s l w)) w ti_68_748 hr (by omega) rfl (by omega) rfl ?_
                                refine k_icmp_eq hK ti_68_749 jt_749_5 (fun c_749 => ?_) (fun c_749 => ?_)
                                · refine k_iinc hK (L' := [some (.ref S), some (.ref 0), some (.ref u), some (.ref q), some (.int _), some (.int _), some (.int _), some (.int _), some (.ref r), some (.int (nI (w + 1))), v10, v11, v12, v13, v14]) ti_68_754 rfl (by rw [kI_1, nI_add]) rfl ?_
                                  refine k_goto hK ti_68_757 jt_757_m26 ?_
                                  refine k_wid hK (c' := 38 + 34 * g_nA s + 137 * g_nC s + (1 + (w + 1))) (q' := 480 + 216 * g_nA s + 1518 * g_nC s + (7 + 6 * (w + 1))) (by omega) (by omega) ?_
                                  exact ihm (w + 1) _ _ _ (by omega) (by omega) hJ
                                · exact absurd rfl c_749
                              · obtain rfl : w = 7 := by omega
                                refine k_aload_n hK ti_68_760 rfl ?_
                                refine k_callV hK (as := []) (st' := []) ti_68_761 ow_68 iv_5_107 mc_68 ms_68 rfl rfl (by omega) (Nat.le_of_ble_eq_true rfl) (Nat.le_of_ble_eq_true rfl) (by omega) (by omega) (by omega) rfl ?_
                                refine sp_X3_mean (by omega) hJ.1 hJ.2.1 hJ.2.2 ?_
                                refine k_iload hK ti_68_764 rfl ?_
                                have hs96 : sntA s l ≤ 96 := Nat.le_trans (sN_le (b := 16) (fun k hk => Nat.le_trans (cnt_le _ _) hW.1)) (by omega)
                                have hs97 : sN (g_nC s) (snt s l) ≤ 96 := hs96
                                refine kz_ne hK (by omega) ti_68_766 jt_766_7 (fun c_766 => ?_) (fun c_766 => ?_)
                                · refine k_dconst hK ti_68_769 ?_
                                  refine k_goto hK ti_68_770 jt_770_10 ?_
                                  refine k_dcmp hK ti_68_780 ?_
                                  refine k_if_ne hK ti_68_781 jt_781_7 (fun c_781 => ?_) (fun c_781 => ?_)
                                  · refine k_iconst hK ti_68_784 kI_1 ?_
                                    refine k_goto hK ti_68_785 jt_785_4 ?_
                                    refine k_zreturn hK ti_68_789 rk_68 mc_68 ms_68 (by omega) (by omega) (by decide) ?_
                                    exact h _ _
                                  · exact absurd (by have h9 := men_cmp hs96 (s := s) (l := l) (e := .l); first | (rw [if_pos (show sntA s l = 0 from c_766)] at h9; exact h9) | (rw [if_neg (show ¬ sntA s l = 0 from c_766)] at h9; exact h9)) c_781
                                · refine k_iload hK ti_68_773 rfl ?_
                                  refine k_i2d hK ti_68_775 ?_
                                  refine k_iload hK ti_68_776 rfl ?_
                                  refine k_i2d hK ti_68_778 ?_
                                  refine k_ddiv hK ti_68_779 (men_nn (show sntA s l ≠ 0 from c_766) hs96) ?_
                                  refine k_dcmp hK ti_68_780 ?_
                                  refine k_if_ne hK ti_68_781 jt_781_7 (fun c_781 => ?_) (fun c_781 => ?_)
                                  · refine k_iconst hK ti_68_784 kI_1 ?_
                                    refine k_goto hK ti_68_785 jt_785_4 ?_
                                    refine k_zreturn hK ti_68_789 rk_68 mc_68 ms_68 (by omega) (by omega) (by decide) ?_
                                    exact h _ _
                                  · exact absurd (by have h9 := men_cmp hs96 (s := s) (l := l) (e := .l); first | (rw [if_pos (show sntA s l = 0 from c_766)] at h9; exact h9) | (rw [if_neg (show ¬ sntA s l = 0 from c_766)] at h9; exact h9)) c_781
                          refine k_wid hK (c' := 38 + 34 * g_nA s + 137 * g_nC s + (1 + 0)) (q' := 480 + 216 * g_nA s + 1518 * g_nC s + (7 + 6 * 0)) (by omega) (by omega) ?_
                          exact loopm (7 - 0 + 1) 0 _ _ _ (by omega) (by omega) hJ
                    exact loopl (20 - 0 + 1) 0 _ (by omega) (by omega) 
              refine k_wid hK (c' := 38 + 34 * g_nA s + 137 * 0) (q' := 480 + 216 * g_nA s + 1518 * 0) (by omega) (by omega) ?_
              exact loopg ((g_nC s) - 0 + 1) 0 _ _ _ _ _ _ _ _ _ (by omega) (by omega) hJ hk hU hq
        refine k_wid hK (c' := 38 + 34 * 0) (q' := 480 + 216 * 0) (by omega) (by omega) ?_
        have hq0 := hq.congr (w := fun x => nI (alx s x 0)) (fun x hx => rfl)
        exact loopb ((g_nA s) - 0 + 1) 0 _ _ _ _ _ _ _ _ _ _ _ (by omega) (by omega) hJ hk hU hq0
  refine k_wid hK (c' := 18 + 0) (q' := 360 + 6 * 0) (by omega) (by omega) ?_
  exact loopa (20 - 0 + 1) 0 _ (by omega) (by omega) hJ
