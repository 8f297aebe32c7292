/-! The reference: mean, digest. (written by wip/whole/ref8.py) -/
set_option maxRecDepth 100000 in
set_option maxHeartbeats 4000000 in
theorem sp_X4_mean {X : dp_X} {d n : Nat} {M : dp_M} {o : Int64} {Q : dp_Q} (h65 : 65 ≤ n) {s : GSt} {l : LSt} (hG : RG M s) (hL : RLt M l) (h : ∀ M', RA M M' (ok (nI 0) s l) → Q (.inl (some (.double (men s l)))) M' o) : dp_run X (d + 3 + 1) 120 [.ref 22] n M o Q := by
  apply k_run
  intro K hK
  rw [mL_120]
  show K 0 [some (.ref 22)] [] n 0 0 M o
  have hA16 := hG.1.1
  have hC6 := hG.1.2.1
  have hsn : sntA s l ≤ g_nC s * 16 := sN_le (fun k hk => Nat.le_trans (cnt_le _ _) hA16)
  refine k_aload_n hK ti_120_0 rfl ?_
  refine k_iconst hK ti_120_1 kI_0 ?_
  refine k_put hK ti_120_2 ow_120 fd_4_19 (by omega) rfl rfl ?_
  have hF : Fr wR M (dp_up M 22 0 (nI 0)) := Fr.up0 _ (Fr.refl _ _)
  replace hG := hG.up0 (nI 0)
  replace hL := hL.up0 (nI 0)
  have h0 : dp_up M 22 0 (nI 0) 22 0 = nI 0 := dp_up_s _ _ _ _
  generalize hM9 : dp_up M 22 0 (nI 0) = M9 at hF hG hL h0 ⊢
  clear hM9
  refine k_aload_n hK ti_120_5 rfl ?_
  refine k_iconst hK ti_120_6 kI_5 ?_
  refine k_callV hK (as := [.int _]) (st' := []) ti_120_7 ow_120 iv_4_128 mc_120 ms_120 rfl rfl (by omega) (Nat.le_of_ble_eq_true rfl) (Nat.le_of_ble_eq_true rfl) (Nat.le_of_ble_eq_true rfl) (Nat.le_of_ble_eq_true rfl) (by omega) rfl ?_
  refine sp_X4_counted (by omega) 5 hG hL (by omega) (k_aftv (nI (sntA s l)) rfl ?_)
  refine kz_ne hK (by omega) ti_120_10 jt_10_7 (fun c_10 => ?_) (fun c_10 => ?_)
  · have e : men s l = FP.dconst0 := by unfold men; rw [if_pos c_10]
    refine k_dconst hK ti_120_13 ?_
    refine k_goto hK ti_120_14 jt_14_17 ?_
    refine k_dreturn hK ti_120_31 rk_120 mc_120 ms_120 (Nat.le_of_ble_eq_true rfl) (Nat.le_of_ble_eq_true rfl) ?_
    have h := h _ (RA.ok hF hG hL h0)
    rw [e] at h
    exact h
  · have e : men s l = FP.ddiv (FP.i2d (pdA s l)) (FP.i2d (nI (sntA s l))) := by unfold men; rw [if_neg c_10]
    refine k_aload_n hK ti_120_17 rfl ?_
    refine k_bipush hK ti_120_18 kB_6 ?_
    refine k_callV hK (as := [.int _]) (st' := []) ti_120_20 ow_120 iv_4_128 mc_120 ms_120 rfl rfl (by omega) (Nat.le_of_ble_eq_true rfl) (Nat.le_of_ble_eq_true rfl) (Nat.le_of_ble_eq_true rfl) (Nat.le_of_ble_eq_true rfl) (by omega) rfl ?_
    refine sp_X4_counted (by omega) 6 hG hL (by omega) (k_aftv (pdA s l) rfl ?_)
    refine k_i2d hK ti_120_23 ?_
    refine k_aload_n hK ti_120_24 rfl ?_
    refine k_iconst hK ti_120_25 kI_5 ?_
    refine k_callV hK (as := [.int _]) (st' := [.double _]) ti_120_26 ow_120 iv_4_128 mc_120 ms_120 rfl rfl (by omega) (Nat.le_of_ble_eq_true rfl) (Nat.le_of_ble_eq_true rfl) (Nat.le_of_ble_eq_true rfl) (Nat.le_of_ble_eq_true rfl) (by omega) rfl ?_
    refine sp_X4_counted (by omega) 5 hG hL (by omega) (k_aftv (nI (sntA s l)) rfl ?_)
    refine k_i2d hK ti_120_29 ?_
    refine k_ddiv hK ti_120_30 (men_nn c_10 (by omega)) ?_
    refine k_dreturn hK ti_120_31 rk_120 mc_120 ms_120 (Nat.le_of_ble_eq_true rfl) (Nat.le_of_ble_eq_true rfl) ?_
    have h := h _ (RA.ok hF hG hL h0)
    rw [e] at h
    exact h

set_option maxRecDepth 100000 in
set_option maxHeartbeats 4000000 in
theorem sp_X4_digest {X : dp_X} {d n : Nat} {M : dp_M} {o : Int64} {Q : dp_Q} (h65 : 65 ≤ n) {s : GSt} {l : LSt} (hG : RG M s) (hL : RLt M l) (h : ∀ M', RA M M' (ok (nI 0) s l) → Q (.inl (some (.long (dig s l)))) M' o) : dp_run X (d + 7 + 1) 121 [.ref 22] n M o Q := by
  apply k_run
  intro K hK
  rw [mL_121]
  show K 0 [some (.ref 22), none, none, none, none, none, none] [] n 0 0 M o
  have hA16 := hG.1.1
  have hC6 := hG.1.2.1
  refine k_aload_n hK ti_121_0 rfl ?_
  refine k_iconst hK ti_121_1 kI_0 ?_
  refine k_put hK ti_121_2 ow_121 fd_4_19 (by omega) rfl rfl ?_
  have hF : Fr wR M (dp_up M 22 0 (nI 0)) := Fr.up0 _ (Fr.refl _ _)
  replace hG := hG.up0 (nI 0)
  replace hL := hL.up0 (nI 0)
  have h0 : dp_up M 22 0 (nI 0) 22 0 = nI 0 := dp_up_s _ _ _ _
  generalize hM9 : dp_up M 22 0 (nI 0) = M9 at hF hG hL h0 ⊢
  clear hM9
  refine k_ldc2_w (x := 1451) hK ti_121_5 (by rw [ow_121]; exact lcj_144) ?_
  refine k_lstore_n hK (L' := [some (.ref 22), some (.long _), none, none, none, none, none]) ti_121_8 rfl ?_
  refine k_iconst hK ti_121_9 kI_0 ?_
  refine k_istore_n hK (L' := [some (.ref 22), some (.long _), none, some (.int _), none, none, none]) ti_121_10 rfl ?_
  suffices hx : K 36 [some (.ref 22), some (.long (fol 7 (fun w d => mxx d (nT s l w)) 1451)), none, some (.int (nI 7)), none, none, none] [] n 0 0 M9 o by
    have loop : ∀ (f i : Nat), i ≤ 7 → 7 - i < f → K 11 [some (.ref 22), some (.long (fol i (fun w d => mxx d (nT s l w)) 1451)), none, some (.int (nI i)), none, none, none] [] n 0 0 M9 o := by
      intro f
      induction f with
      | zero => intro i h1 h2; omega
      | succ f ih =>
        intro i h1 h2
        refine k_iload_n hK ti_121_11 rfl ?_
        refine k_bipush hK ti_121_12 kB_7 ?_
        refine kn_ge hK (by omega) (by omega) ti_121_14 jt_14_22 (fun c_14 => ?_) (fun c_14 => ?_)
        · refine k_lload_n hK ti_121_17 rfl ?_
          refine k_ldc2_w (x := 31) hK ti_121_18 (by rw [ow_121]; exact lcj_146) ?_
          refine k_lmul hK ti_121_21 ?_
          refine k_aload_n hK ti_121_22 rfl ?_
          refine k_iload_n hK ti_121_23 rfl ?_
          refine k_callV hK (as := [.int _]) (st' := [.long _]) ti_121_24 ow_121 iv_4_128 mc_121 ms_121 rfl rfl (by omega) (Nat.le_of_ble_eq_true rfl) (Nat.le_of_ble_eq_true rfl) (Nat.le_of_ble_eq_true rfl) (Nat.le_of_ble_eq_true rfl) (by omega) rfl ?_
          refine sp_X4_counted (by omega) i hG hL (by omega) ?_
          refine k_i2l hK ti_121_27 ?_
          refine k_laddv hK ti_121_28 (fol_m (fun _ => rfl)) ?_
          refine k_lstore_n hK (L' := [some (.ref 22), some (.long _), none, some (.int _), none, none, none]) ti_121_29 rfl ?_
          refine k_iinc hK (L' := [some (.ref 22), some (.long _), none, some (.int (nI (i + 1))), none, none, none]) ti_121_30 rfl (by rw [kI_1, nI_add]) rfl ?_
          refine k_goto hK ti_121_33 jt_33_m22 ?_
          exact ih (i + 1) (by omega) (by omega) 
        · obtain rfl : i = 7 := by omega
          exact hx
    rw [← fol_0 (fun w d => mxx d (nT s l w)) 1451]
    exact loop (7 - 0 + 1) 0 (by omega) (by omega) 
  generalize hD1 : fol 7 (fun w d => mxx d (nT s l w)) 1451 = D1
  refine k_aload_n hK ti_121_36 rfl ?_
  refine k_get hK ti_121_37 ow_121 fd_4_9 (by omega) rfl rfl ?_
  refine k_astore_n hK (L' := [some (.ref 22), some (.long _), none, some (.ref 23), none, none, none]) ti_121_40 rfl ?_
  refine k_aload_n hK ti_121_41 rfl ?_
  refine k_alen hK ti_121_42 rfl (by omega) (by omega) dpl_23 ?_
  refine k_istore hK (L' := [some (.ref 22), some (.long _), none, some (.ref 23), some (.int _), none, none]) ti_121_43 rfl ?_
  refine k_iconst hK ti_121_45 kI_0 ?_
  refine k_istore hK (L' := [some (.ref 22), some (.long _), none, some (.ref 23), some (.int _), some (.int _), none]) ti_121_46 rfl ?_
  suffices hxb : ∀ (u : Option Value), K 77 [some (.ref 22), some (.long (fol 40 (fun w d => mxx d (nI (g_st s w))) D1)), none, some (.ref 23), some (.int (nI 40)), some (.int (nI 40)), u] [] n 0 0 M9 o by
    have loopb : ∀ (fb i : Nat) (u : Option Value), i ≤ 40 → 40 - i < fb → K 48 [some (.ref 22), some (.long (fol i (fun w d => mxx d (nI (g_st s w))) D1)), none, some (.ref 23), some (.int (nI 40)), some (.int (nI i)), u] [] n 0 0 M9 o := by
      intro fb
      induction fb with
      | zero => intro i u h1b h2b; omega
      | succ fb ihb =>
        intro i u h1b h2b
        refine k_iload hK ti_121_48 rfl ?_
        refine k_iload hK ti_121_50 rfl ?_
        refine kn_ge hK (by omega) (by omega) ti_121_52 jt_52_25 (fun c_52 => ?_) (fun c_52 => ?_)
        · refine k_aload_n hK ti_121_55 rfl ?_
          refine k_iload hK ti_121_56 rfl ?_
          refine k_ialdv (v := (nI (g_st s i))) hK i ti_121_58 rfl (by omega) (by omega) rfl (by rw [dpl_23]; omega) (hG.2.2.2.1 i (by omega)) ?_
          refine k_istore hK (L' := [some (.ref 22), some (.long _), none, some (.ref 23), some (.int _), some (.int _), some (.int _)]) ti_121_59 rfl ?_
          refine k_lload_n hK ti_121_61 rfl ?_
          refine k_ldc2_w (x := 31) hK ti_121_62 (by rw [ow_121]; exact lcj_146) ?_
          refine k_lmul hK ti_121_65 ?_
          refine k_iload hK ti_121_66 rfl ?_
          refine k_i2l hK ti_121_68 ?_
          refine k_laddv hK ti_121_69 (fol_m (fun _ => rfl)) ?_
          refine k_lstore_n hK (L' := [some (.ref 22), some (.long _), none, some (.ref 23), some (.int _), some (.int _), some (.int _)]) ti_121_70 rfl ?_
          refine k_iinc hK (L' := [some (.ref 22), some (.long _), none, some (.ref 23), some (.int _), some (.int (nI (i + 1))), some (.int _)]) ti_121_71 rfl (by rw [kI_1, nI_add]) rfl ?_
          refine k_goto hK ti_121_74 jt_74_m26 ?_
          exact ihb (i + 1) _ (by omega) (by omega) 
        · obtain rfl : i = 40 := by omega
          exact hxb _
    rw [← fol_0 (fun w d => mxx d (nI (g_st s w))) D1]
    exact loopb (40 - 0 + 1) 0 _ (by omega) (by omega) 
  intro u
  generalize hD2 : fol 40 (fun w d => mxx d (nI (g_st s w))) D1 = D2
  refine k_iconst hK ti_121_77 kI_0 ?_
  refine k_istore_n hK (L' := [some (.ref 22), some (.long _), none, some (.int _), some (.int _), some (.int _), u]) ti_121_78 rfl ?_
  suffices hxc : ∀ (u : Option Value) (v : Option Value) (w : Option Value), K 160 [some (.ref 22), some (.long (fol (g_nA s) (dgA s l) D2)), none, some (.int (nI ((g_nA s)))), u, v, w] [] n 0 0 M9 o by
    have loopc : ∀ (fc i : Nat) (u : Option Value) (v : Option Value) (w : Option Value), i ≤ (g_nA s) → (g_nA s) - i < fc → K 79 [some (.ref 22), some (.long (fol i (dgA s l) D2)), none, some (.int (nI i)), u, v, w] [] n 0 0 M9 o := by
      intro fc
      induction fc with
      | zero => intro i u v w h1c h2c; omega
      | succ fc ihc =>
        intro i u v w h1c h2c
        refine k_iload_n hK ti_121_79 rfl ?_
        refine k_aload_n hK ti_121_80 rfl ?_
        refine k_geti hK (nI (g_nA s)) ti_121_81 ow_121 fd_4_23 (by omega) rfl rfl hG.2.1 ?_
        refine kn_ge hK (by omega) (by omega) ti_121_84 jt_84_76 (fun c_84 => ?_) (fun c_84 => ?_)
        · have hlen := hG.1.2.2.2.1 i (by omega)
          refine k_iconst hK ti_121_87 kI_0 ?_
          refine k_istore hK (L' := [some (.ref 22), some (.long _), none, some (.int _), some (.int _), v, w]) ti_121_88 rfl ?_
          suffices hxd : K 117 [some (.ref 22), some (.long (fol 4 (fun w d => mxx d (aT s l i w)) (fol i (dgA s l) D2))), none, some (.int (nI i)), some (.int (nI 4)), v, w] [] n 0 0 M9 o by
            have loopd : ∀ (fd j : Nat), j ≤ 4 → 4 - j < fd → K 90 [some (.ref 22), some (.long (fol j (fun w d => mxx d (aT s l i w)) (fol i (dgA s l) D2))), none, some (.int (nI i)), some (.int (nI j)), v, w] [] n 0 0 M9 o := by
              intro fd
              induction fd with
              | zero => intro j h1d h2d; omega
              | succ fd ihd =>
                intro j h1d h2d
                refine k_iload hK ti_121_90 rfl ?_
                refine k_iconst hK ti_121_92 kI_4 ?_
                refine kn_ge hK (by omega) (by omega) ti_121_93 jt_93_24 (fun c_93 => ?_) (fun c_93 => ?_)
                · refine k_lload_n hK ti_121_96 rfl ?_
                  refine k_ldc2_w (x := 31) hK ti_121_97 (by rw [ow_121]; exact lcj_146) ?_
                  refine k_lmul hK ti_121_100 ?_
                  refine k_aload_n hK ti_121_101 rfl ?_
                  refine k_iload_n hK ti_121_102 rfl ?_
                  refine k_iload hK ti_121_103 rfl ?_
                  refine k_callV hK (as := [.int _, .int _]) (st' := [.long _]) ti_121_105 ow_121 iv_4_116 mc_121 ms_121 rfl rfl (by omega) (Nat.le_of_ble_eq_true rfl) (Nat.le_of_ble_eq_true rfl) (Nat.le_of_ble_eq_true rfl) (Nat.le_of_ble_eq_true rfl) (by omega) rfl ?_
                  refine sp_X4_articleTold (by omega) i j hG hL (by omega) (by omega) ?_
                  refine k_i2l hK ti_121_108 ?_
                  refine k_laddv hK ti_121_109 (fol_m (fun _ => rfl)) ?_
                  refine k_lstore_n hK (L' := [some (.ref 22), some (.long _), none, some (.int _), some (.int _), v, w]) ti_121_110 rfl ?_
                  refine k_iinc hK (L' := [some (.ref 22), some (.long _), none, some (.int _), some (.int (nI (j + 1))), v, w]) ti_121_111 rfl (by rw [kI_1, nI_add]) rfl ?_
                  refine k_goto hK ti_121_114 jt_114_m24 ?_
                  exact ihd (j + 1) (by omega) (by omega) 
                · obtain rfl : j = 4 := by omega
                  exact hxd
            rw [← fol_0 (fun w d => mxx d (aT s l i w)) (fol i (dgA s l) D2)]
            exact loopd (4 - 0 + 1) 0 (by omega) (by omega) 
          refine k_iconst hK ti_121_117 kI_0 ?_
          refine k_istore hK (L' := [some (.ref 22), some (.long _), none, some (.int _), some (.int _), v, w]) ti_121_118 rfl ?_
          suffices hxe : K 154 [some (.ref 22), some (.long (fol (g_len s i) (fun k d => mxx d (nI (g_wd s i k))) (fol 4 (fun w d => mxx d (aT s l i w)) (fol i (dgA s l) D2)))), none, some (.int (nI i)), some (.int (nI ((g_len s i)))), v, w] [] n 0 0 M9 o by
            have loope : ∀ (fe j : Nat), j ≤ (g_len s i) → (g_len s i) - j < fe → K 120 [some (.ref 22), some (.long (fol j (fun k d => mxx d (nI (g_wd s i k))) (fol 4 (fun w d => mxx d (aT s l i w)) (fol i (dgA s l) D2)))), none, some (.int (nI i)), some (.int (nI j)), v, w] [] n 0 0 M9 o := by
              intro fe
              induction fe with
              | zero => intro j h1e h2e; omega
              | succ fe ihe =>
                intro j h1e h2e
                refine k_iload hK ti_121_120 rfl ?_
                refine k_aload_n hK ti_121_122 rfl ?_
                refine k_iload_n hK ti_121_123 rfl ?_
                refine k_iconst hK ti_121_124 kI_0 ?_
                refine k_callV hK (as := [.int _, .int _]) (st' := [.int _]) ti_121_125 ow_121 iv_4_47 mc_121 ms_121 rfl rfl (by omega) (Nat.le_of_ble_eq_true rfl) (Nat.le_of_ble_eq_true rfl) (Nat.le_of_ble_eq_true rfl) (Nat.le_of_ble_eq_true rfl) (by omega) rfl ?_
                refine sp_X4_ar (by omega) i 0 (by omega) (by omega) (k_aftv ((nI (g_len s i))) (hG.2.2.2.2.1 i (by omega)) ?_)
                refine kn_ge hK (by omega) (by omega) ti_121_128 jt_128_26 (fun c_128 => ?_) (fun c_128 => ?_)
                · refine k_lload_n hK ti_121_131 rfl ?_
                  refine k_ldc2_w (x := 31) hK ti_121_132 (by rw [ow_121]; exact lcj_146) ?_
                  refine k_lmul hK ti_121_135 ?_
                  refine k_aload_n hK ti_121_136 rfl ?_
                  refine k_iload_n hK ti_121_137 rfl ?_
                  refine k_iconst hK ti_121_138 kI_2 ?_
                  refine k_iload hK ti_121_139 rfl ?_
                  refine k_iadd hK (z := (nI (2 + j))) ti_121_141 (nI_add _ _) ?_
                  refine k_callV hK (as := [.int _, .int _]) (st' := [.long _]) ti_121_142 ow_121 iv_4_47 mc_121 ms_121 rfl rfl (by omega) (Nat.le_of_ble_eq_true rfl) (Nat.le_of_ble_eq_true rfl) (Nat.le_of_ble_eq_true rfl) (Nat.le_of_ble_eq_true rfl) (by omega) rfl ?_
                  refine sp_X4_ar (by omega) i (2 + j) (by omega) (by omega) (k_aftv ((nI (g_wd s i j))) (hG.2.2.2.2.2.1 i j (by omega) (by omega)) ?_)
                  refine k_i2l hK ti_121_145 ?_
                  refine k_laddv hK ti_121_146 (fol_m (fun _ => rfl)) ?_
                  refine k_lstore_n hK (L' := [some (.ref 22), some (.long _), none, some (.int _), some (.int _), v, w]) ti_121_147 rfl ?_
                  refine k_iinc hK (L' := [some (.ref 22), some (.long _), none, some (.int _), some (.int (nI (j + 1))), v, w]) ti_121_148 rfl (by rw [kI_1, nI_add]) rfl ?_
                  refine k_goto hK ti_121_151 jt_151_m31 ?_
                  exact ihe (j + 1) (by omega) (by omega) 
                · obtain rfl : j = (g_len s i) := by omega
                  exact hxe
            rw [← fol_0 (fun k d => mxx d (nI (g_wd s i k))) (fol 4 (fun w d => mxx d (aT s l i w)) (fol i (dgA s l) D2))]
            exact loope ((g_len s i) - 0 + 1) 0 (by omega) (by omega) 
          refine k_iinc hK (L' := [some (.ref 22), some (.long _), none, some (.int (nI (i + 1))), some (.int _), v, w]) ti_121_154 rfl (by rw [kI_1, nI_add]) rfl ?_
          refine k_goto hK ti_121_157 jt_157_m78 ?_
          rw [← dgA_u s l i (fol i (dgA s l) D2), ← fol_S i (dgA s l) D2]
          exact ihc (i + 1) _ _ _ (by omega) (by omega) 
        · obtain rfl : i = (g_nA s) := by omega
          exact hxc _ _ _
    rw [← fol_0 (dgA s l) D2]
    exact loopc ((g_nA s) - 0 + 1) 0 _ _ _ (by omega) (by omega) 
  intro u v w
  generalize hD3 : fol (g_nA s) (dgA s l) D2 = D3
  refine k_iconst hK ti_121_160 kI_0 ?_
  refine k_istore_n hK (L' := [some (.ref 22), some (.long _), none, some (.int _), u, v, w]) ti_121_161 rfl ?_
  suffices hxf : ∀ (u : Option Value) (v : Option Value) (w : Option Value), K 277 [some (.ref 22), some (.long (fol (g_nC s) (dgC s l) D3)), none, some (.int (nI ((g_nC s)))), u, v, w] [] n 0 0 M9 o by
    have loopf : ∀ (ff i : Nat) (u : Option Value) (v : Option Value) (w : Option Value), i ≤ (g_nC s) → (g_nC s) - i < ff → K 162 [some (.ref 22), some (.long (fol i (dgC s l) D3)), none, some (.int (nI i)), u, v, w] [] n 0 0 M9 o := by
      intro ff
      induction ff with
      | zero => intro i u v w h1f h2f; omega
      | succ ff ihf =>
        intro i u v w h1f h2f
        refine k_iload_n hK ti_121_162 rfl ?_
        refine k_aload_n hK ti_121_163 rfl ?_
        refine k_geti hK (nI (g_nC s)) ti_121_164 ow_121 fd_4_30 (by omega) rfl rfl hG.2.2.1 ?_
        refine kn_ge hK (by omega) (by omega) ti_121_167 jt_167_110 (fun c_167 => ?_) (fun c_167 => ?_)
        · have hm5 := hG.1.2.2.2.2.2.1 i (by omega)
          refine k_iconst hK ti_121_170 kI_0 ?_
          refine k_istore hK (L' := [some (.ref 22), some (.long _), none, some (.int _), some (.int _), v, w]) ti_121_171 rfl ?_
          suffices hxg : K 201 [some (.ref 22), some (.long (fol 6 (fun w d => mxx d (cT s l i w)) (fol i (dgC s l) D3))), none, some (.int (nI i)), some (.int (nI 6)), v, w] [] n 0 0 M9 o by
            have loopg : ∀ (fg j : Nat), j ≤ 6 → 6 - j < fg → K 173 [some (.ref 22), some (.long (fol j (fun w d => mxx d (cT s l i w)) (fol i (dgC s l) D3))), none, some (.int (nI i)), some (.int (nI j)), v, w] [] n 0 0 M9 o := by
              intro fg
              induction fg with
              | zero => intro j h1g h2g; omega
              | succ fg ihg =>
                intro j h1g h2g
                refine k_iload hK ti_121_173 rfl ?_
                refine k_bipush hK ti_121_175 kB_6 ?_
                refine kn_ge hK (by omega) (by omega) ti_121_177 jt_177_24 (fun c_177 => ?_) (fun c_177 => ?_)
                · refine k_lload_n hK ti_121_180 rfl ?_
                  refine k_ldc2_w (x := 31) hK ti_121_181 (by rw [ow_121]; exact lcj_146) ?_
                  refine k_lmul hK ti_121_184 ?_
                  refine k_aload_n hK ti_121_185 rfl ?_
                  refine k_iload_n hK ti_121_186 rfl ?_
                  refine k_iload hK ti_121_187 rfl ?_
                  refine k_callV hK (as := [.int _, .int _]) (st' := [.long _]) ti_121_189 ow_121 iv_4_125 mc_121 ms_121 rfl rfl (by omega) (Nat.le_of_ble_eq_true rfl) (Nat.le_of_ble_eq_true rfl) (Nat.le_of_ble_eq_true rfl) (Nat.le_of_ble_eq_true rfl) (by omega) rfl ?_
                  refine sp_X4_clientTold (by omega) i j hG hL (by omega) (by omega) ?_
                  refine k_i2l hK ti_121_192 ?_
                  refine k_laddv hK ti_121_193 (fol_m (fun _ => rfl)) ?_
                  refine k_lstore_n hK (L' := [some (.ref 22), some (.long _), none, some (.int _), some (.int _), v, w]) ti_121_194 rfl ?_
                  refine k_iinc hK (L' := [some (.ref 22), some (.long _), none, some (.int _), some (.int (nI (j + 1))), v, w]) ti_121_195 rfl (by rw [kI_1, nI_add]) rfl ?_
                  refine k_goto hK ti_121_198 jt_198_m25 ?_
                  exact ihg (j + 1) (by omega) (by omega) 
                · obtain rfl : j = 6 := by omega
                  exact hxg
            rw [← fol_0 (fun w d => mxx d (cT s l i w)) (fol i (dgC s l) D3)]
            exact loopg (6 - 0 + 1) 0 (by omega) (by omega) 
          refine k_iconst hK ti_121_201 kI_0 ?_
          refine k_istore hK (L' := [some (.ref 22), some (.long _), none, some (.int _), some (.int _), v, w]) ti_121_202 rfl ?_
          suffices hxh : K 238 [some (.ref 22), some (.long (fol (g_many s i) (fun k d => mxx d (nI (g_wish s i k))) (fol 6 (fun w d => mxx d (cT s l i w)) (fol i (dgC s l) D3)))), none, some (.int (nI i)), some (.int (nI ((g_many s i)))), v, w] [] n 0 0 M9 o by
            have looph : ∀ (fh j : Nat), j ≤ (g_many s i) → (g_many s i) - j < fh → K 204 [some (.ref 22), some (.long (fol j (fun k d => mxx d (nI (g_wish s i k))) (fol 6 (fun w d => mxx d (cT s l i w)) (fol i (dgC s l) D3)))), none, some (.int (nI i)), some (.int (nI j)), v, w] [] n 0 0 M9 o := by
              intro fh
              induction fh with
              | zero => intro j h1h h2h; omega
              | succ fh ihh =>
                intro j h1h h2h
                refine k_iload hK ti_121_204 rfl ?_
                refine k_aload_n hK ti_121_206 rfl ?_
                refine k_iload_n hK ti_121_207 rfl ?_
                refine k_iconst hK ti_121_208 kI_1 ?_
                refine k_callV hK (as := [.int _, .int _]) (st' := [.int _]) ti_121_209 ow_121 iv_4_61 mc_121 ms_121 rfl rfl (by omega) (Nat.le_of_ble_eq_true rfl) (Nat.le_of_ble_eq_true rfl) (Nat.le_of_ble_eq_true rfl) (Nat.le_of_ble_eq_true rfl) (by omega) rfl ?_
                refine sp_X4_cl (by omega) i 1 (by omega) (by omega) (k_aftv ((nI (g_many s i))) (hG.2.2.2.2.2.2.1 i (by omega)) ?_)
                refine kn_ge hK (by omega) (by omega) ti_121_212 jt_212_26 (fun c_212 => ?_) (fun c_212 => ?_)
                · refine k_lload_n hK ti_121_215 rfl ?_
                  refine k_ldc2_w (x := 31) hK ti_121_216 (by rw [ow_121]; exact lcj_146) ?_
                  refine k_lmul hK ti_121_219 ?_
                  refine k_aload_n hK ti_121_220 rfl ?_
                  refine k_iload_n hK ti_121_221 rfl ?_
                  refine k_iconst hK ti_121_222 kI_5 ?_
                  refine k_iload hK ti_121_223 rfl ?_
                  refine k_iadd hK (z := (nI (5 + j))) ti_121_225 (nI_add _ _) ?_
                  refine k_callV hK (as := [.int _, .int _]) (st' := [.long _]) ti_121_226 ow_121 iv_4_61 mc_121 ms_121 rfl rfl (by omega) (Nat.le_of_ble_eq_true rfl) (Nat.le_of_ble_eq_true rfl) (Nat.le_of_ble_eq_true rfl) (Nat.le_of_ble_eq_true rfl) (by omega) rfl ?_
                  refine sp_X4_cl (by omega) i (5 + j) (by omega) (by omega) (k_aftv ((nI (g_wish s i j))) (hG.2.2.2.2.2.2.2.1 i j (by omega) (by omega)) ?_)
                  refine k_i2l hK ti_121_229 ?_
                  refine k_laddv hK ti_121_230 (fol_m (fun _ => rfl)) ?_
                  refine k_lstore_n hK (L' := [some (.ref 22), some (.long _), none, some (.int _), some (.int _), v, w]) ti_121_231 rfl ?_
                  refine k_iinc hK (L' := [some (.ref 22), some (.long _), none, some (.int _), some (.int (nI (j + 1))), v, w]) ti_121_232 rfl (by rw [kI_1, nI_add]) rfl ?_
                  refine k_goto hK ti_121_235 jt_235_m31 ?_
                  exact ihh (j + 1) (by omega) (by omega) 
                · obtain rfl : j = (g_many s i) := by omega
                  exact hxh
            rw [← fol_0 (fun k d => mxx d (nI (g_wish s i k))) (fol 6 (fun w d => mxx d (cT s l i w)) (fol i (dgC s l) D3))]
            exact looph ((g_many s i) - 0 + 1) 0 (by omega) (by omega) 
          refine k_iconst hK ti_121_238 kI_0 ?_
          refine k_istore hK (L' := [some (.ref 22), some (.long _), none, some (.int _), some (.int _), v, w]) ti_121_239 rfl ?_
          suffices hxk : K 271 [some (.ref 22), some (.long (fol (g_nA s) (fun a d => mxx d (sc s l i a)) (fol (g_many s i) (fun k d => mxx d (nI (g_wish s i k))) (fol 6 (fun w d => mxx d (cT s l i w)) (fol i (dgC s l) D3))))), none, some (.int (nI i)), some (.int (nI ((g_nA s)))), v, w] [] n 0 0 M9 o by
            have loopk : ∀ (fk j : Nat), j ≤ (g_nA s) → (g_nA s) - j < fk → K 241 [some (.ref 22), some (.long (fol j (fun a d => mxx d (sc s l i a)) (fol (g_many s i) (fun k d => mxx d (nI (g_wish s i k))) (fol 6 (fun w d => mxx d (cT s l i w)) (fol i (dgC s l) D3))))), none, some (.int (nI i)), some (.int (nI j)), v, w] [] n 0 0 M9 o := by
              intro fk
              induction fk with
              | zero => intro j h1k h2k; omega
              | succ fk ihk =>
                intro j h1k h2k
                refine k_iload hK ti_121_241 rfl ?_
                refine k_aload_n hK ti_121_243 rfl ?_
                refine k_geti hK (nI (g_nA s)) ti_121_244 ow_121 fd_4_23 (by omega) rfl rfl hG.2.1 ?_
                refine kn_ge hK (by omega) (by omega) ti_121_247 jt_247_24 (fun c_247 => ?_) (fun c_247 => ?_)
                · refine k_lload_n hK ti_121_250 rfl ?_
                  refine k_ldc2_w (x := 31) hK ti_121_251 (by rw [ow_121]; exact lcj_146) ?_
                  refine k_lmul hK ti_121_254 ?_
                  refine k_aload_n hK ti_121_255 rfl ?_
                  refine k_iload_n hK ti_121_256 rfl ?_
                  refine k_iload hK ti_121_257 rfl ?_
                  refine k_callV hK (as := [.int _, .int _]) (st' := [.long _]) ti_121_259 ow_121 iv_4_84 mc_121 ms_121 rfl rfl (by omega) (Nat.le_of_ble_eq_true rfl) (Nat.le_of_ble_eq_true rfl) (Nat.le_of_ble_eq_true rfl) (Nat.le_of_ble_eq_true rfl) (by omega) rfl ?_
                  refine sp_X4_scored (by omega) i j hG hL (by omega) (by omega) ?_
                  refine k_i2l hK ti_121_262 ?_
                  refine k_laddv hK ti_121_263 (fol_m (fun _ => rfl)) ?_
                  refine k_lstore_n hK (L' := [some (.ref 22), some (.long _), none, some (.int _), some (.int _), v, w]) ti_121_264 rfl ?_
                  refine k_iinc hK (L' := [some (.ref 22), some (.long _), none, some (.int _), some (.int (nI (j + 1))), v, w]) ti_121_265 rfl (by rw [kI_1, nI_add]) rfl ?_
                  refine k_goto hK ti_121_268 jt_268_m27 ?_
                  exact ihk (j + 1) (by omega) (by omega) 
                · obtain rfl : j = (g_nA s) := by omega
                  exact hxk
            rw [← fol_0 (fun a d => mxx d (sc s l i a)) (fol (g_many s i) (fun k d => mxx d (nI (g_wish s i k))) (fol 6 (fun w d => mxx d (cT s l i w)) (fol i (dgC s l) D3)))]
            exact loopk ((g_nA s) - 0 + 1) 0 (by omega) (by omega) 
          refine k_iinc hK (L' := [some (.ref 22), some (.long _), none, some (.int (nI (i + 1))), some (.int _), v, w]) ti_121_271 rfl (by rw [kI_1, nI_add]) rfl ?_
          refine k_goto hK ti_121_274 jt_274_m112 ?_
          rw [← dgC_u s l i (fol i (dgC s l) D3), ← fol_S i (dgC s l) D3]
          exact ihf (i + 1) _ _ _ (by omega) (by omega) 
        · obtain rfl : i = (g_nC s) := by omega
          exact hxf _ _ _
    rw [← fol_0 (dgC s l) D3]
    exact loopf ((g_nC s) - 0 + 1) 0 _ _ _ (by omega) (by omega) 
  intro u v w
  refine k_lload_n hK ti_121_277 rfl ?_
  refine k_lreturn hK ti_121_278 rk_121 mc_121 ms_121 (Nat.le_of_ble_eq_true rfl) (Nat.le_of_ble_eq_true rfl) ?_
  have e : dig s l = fol (g_nC s) (dgC s l) D3 := by unfold dig; rw [hD1, hD2, hD3]
  rw [e] at h
  exact h _ (RA.ok hF hG hL h0)
