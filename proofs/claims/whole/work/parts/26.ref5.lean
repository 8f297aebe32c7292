/-! The reference: its face, what only reads. (written by wip/whole/ref5.py) -/
set_option maxRecDepth 100000 in
set_option maxHeartbeats 4000000 in
theorem sp_X4_send {X : dp_X} {d n : Nat} {M : dp_M} {o : Int64} {Q : dp_Q} (h65 : 65 ≤ n) {s : GSt} {l : LSt} (x : Int32) (hG : RG M s) (hL : RLt M l) (h : ∀ M', RA M M' (fc_send s l x) → Q (.inl (some (.int (u_r (fc_send s l x))))) M' o) : dp_run X (d + 7 + 1) 96 [.ref 22, .int x] n M o Q := by
  apply k_run
  intro K hK
  rw [mL_96]
  show K 0 [some (.ref 22), some (.int x)] [] n 0 0 M o
  have hA16 := hG.1.1
  have hC6 := hG.1.2.1
  refine k_aload_n hK ti_96_0 rfl ?_
  refine k_iconst hK ti_96_1 kI_0 ?_
  refine k_put hK ti_96_2 ow_96 fd_4_19 (by omega) rfl rfl ?_
  have hF : Fr wR M (dp_up M 22 0 (nI 0)) := Fr.up0 _ (Fr.refl _ _)
  replace hG := hG.up0 (nI 0)
  replace hL := hL.up0 (nI 0)
  have h0 : dp_up M 22 0 (nI 0) 22 0 = nI 0 := dp_up_s _ _ _ _
  generalize hM9 : dp_up M 22 0 (nI 0) = M9 at hF hG hL h0 ⊢
  clear hM9
  refine k_aload_n hK ti_96_5 rfl ?_
  refine k_iload_n hK ti_96_6 rfl ?_
  refine k_callV hK (as := [.int _]) (st' := []) ti_96_7 ow_96 iv_4_64 mc_96 ms_96 rfl rfl (by omega) (Nat.le_of_ble_eq_true rfl) (Nat.le_of_ble_eq_true rfl) (Nat.le_of_ble_eq_true rfl) (Nat.le_of_ble_eq_true rfl) (by omega) rfl ?_
  refine sp_X4_isClient (by omega) _ hG ?_
  refine kb_eq hK ti_96_10 jt_10_11 (fun c_10 => ?_) (fun c_10 => ?_)
  · have e : fc_send s l x = bad 1 0 s l := by simp only [fc_send, is_f c_10]
    refine k_aload_n hK ti_96_21 rfl ?_
    refine k_iconst hK ti_96_22 kI_1 ?_
    refine k_callV hK (as := [.int _]) (st' := []) ti_96_23 ow_96 iv_4_40 mc_96 ms_96 rfl rfl (by omega) (Nat.le_of_ble_eq_true rfl) (Nat.le_of_ble_eq_true rfl) (Nat.le_of_ble_eq_true rfl) (Nat.le_of_ble_eq_true rfl) (by omega) rfl ?_
    refine sp_X4_fail (by omega) _ ?_
    refine k_ireturn hK ti_96_26 rk_96 mc_96 ms_96 (Nat.le_of_ble_eq_true rfl) (Nat.le_of_ble_eq_true rfl) ?_
    rw [e] at h
    exact h _ (RA.bad rfl hF hG hL)
  · obtain ⟨c, hx_c⟩ := is_t c_10
    obtain ⟨hl_c, rfl⟩ := ix_some hx_c (by omega)
    refine k_aload_n hK ti_96_13 rfl ?_
    refine k_iload_n hK ti_96_14 rfl ?_
    refine k_callV hK (as := [.int _]) (st' := []) ti_96_15 ow_96 iv_4_97 mc_96 ms_96 rfl rfl (by omega) (Nat.le_of_ble_eq_true rfl) (Nat.le_of_ble_eq_true rfl) (Nat.le_of_ble_eq_true rfl) (Nat.le_of_ble_eq_true rfl) (by omega) rfl ?_
    refine sp_X4_sendTo (by omega) c hG hL (by omega) (fun M hF1 hG hL => ?_)
    have e : fc_send s l (nI c) = ok (oI (snd1 s l c)) s (sendL s l c) := by simp only [fc_send, hx_c]
    replace h0 := (hF1 22 0 (by simp [wL])).trans h0
    have hF := hF.trans hF1.toR
    refine k_goto hK ti_96_18 jt_18_8 ?_
    refine k_ireturn hK ti_96_26 rk_96 mc_96 ms_96 (Nat.le_of_ble_eq_true rfl) (Nat.le_of_ble_eq_true rfl) ?_
    rw [e] at h
    exact h _ (RA.ok hF hG hL h0)

set_option maxRecDepth 100000 in
set_option maxHeartbeats 4000000 in
theorem sp_X4_pass {X : dp_X} {d n : Nat} {M : dp_M} {o : Int64} {Q : dp_Q} (h65 : 65 ≤ n) {s : GSt} {l : LSt} (x : Int32) (hG : RG M s) (hL : RLt M l) (h : ∀ M', RA M M' (fc_pass s l x) → Q (.inl (some (.int (u_r (fc_pass s l x))))) M' o) : dp_run X (d + 9 + 1) 99 [.ref 22, .int x] n M o Q := by
  apply k_run
  intro K hK
  rw [mL_99]
  show K 0 [some (.ref 22), some (.int x)] [] n 0 0 M o
  have hA16 := hG.1.1
  have hC6 := hG.1.2.1
  refine k_aload_n hK ti_99_0 rfl ?_
  refine k_iconst hK ti_99_1 kI_0 ?_
  refine k_put hK ti_99_2 ow_99 fd_4_19 (by omega) rfl rfl ?_
  have hF : Fr wR M (dp_up M 22 0 (nI 0)) := Fr.up0 _ (Fr.refl _ _)
  replace hG := hG.up0 (nI 0)
  replace hL := hL.up0 (nI 0)
  have h0 : dp_up M 22 0 (nI 0) 22 0 = nI 0 := dp_up_s _ _ _ _
  generalize hM9 : dp_up M 22 0 (nI 0) = M9 at hF hG hL h0 ⊢
  clear hM9
  refine k_iload_n hK ti_99_5 rfl ?_
  refine k_iconst hK ti_99_6 kI_1 ?_
  refine k_bipush hK ti_99_7 kB_30 ?_
  refine k_callS hK (as := [.int _, .int _, .int _]) (st' := []) ti_99_9 ow_99 iv_4_26 mc_99 ms_99 rfl rfl (by omega) (Nat.le_of_ble_eq_true rfl) (Nat.le_of_ble_eq_true rfl) (Nat.le_of_ble_eq_true rfl) (Nat.le_of_ble_eq_true rfl) ?_
  refine sp_X4_isIn (by omega) _ _ _ ?_
  refine kb_eq hK ti_99_12 jt_12_11 (fun c_12 => ?_) (fun c_12 => ?_)
  · have e : fc_pass s l x = bad 1 2 s l := by unfold fc_pass; simp only [c_12]; rfl
    refine k_aload_n hK ti_99_23 rfl ?_
    refine k_iconst hK ti_99_24 kI_1 ?_
    refine k_callV hK (as := [.int _]) (st' := []) ti_99_25 ow_99 iv_4_40 mc_99 ms_99 rfl rfl (by omega) (Nat.le_of_ble_eq_true rfl) (Nat.le_of_ble_eq_true rfl) (Nat.le_of_ble_eq_true rfl) (Nat.le_of_ble_eq_true rfl) (by omega) rfl ?_
    refine sp_X4_fail (by omega) _ ?_
    refine k_ireturn hK ti_99_28 rk_99 mc_99 ms_99 (Nat.le_of_ble_eq_true rfl) (Nat.le_of_ble_eq_true rfl) ?_
    rw [e] at h
    exact h _ (RA.bad rfl hF hG hL)
  · obtain ⟨k, hl1_k, hl_k, rfl⟩ := isin_n c_12 (by decide) (by decide)
    have hcl_k := nI_clamp (show k < 2 ^ 31 by omega)
    refine k_aload_n hK ti_99_15 rfl ?_
    refine k_iload_n hK ti_99_16 rfl ?_
    refine k_callV hK (as := [.int _]) (st' := []) ti_99_17 ow_99 iv_4_107 mc_99 ms_99 rfl rfl (by omega) (Nat.le_of_ble_eq_true rfl) (Nat.le_of_ble_eq_true rfl) (Nat.le_of_ble_eq_true rfl) (Nat.le_of_ble_eq_true rfl) (by omega) rfl ?_
    refine sp_X4_roundsOn (by omega) k hG hL (by omega) (fun M hF1 hG hL => ?_)
    have e : fc_pass s l (nI k) = ok (nI (rdsn s l k)) s (roundsL s l k) := by unfold fc_pass; simp only [c_12, hcl_k]; rfl
    replace h0 := (hF1 22 0 (by simp [wL])).trans h0
    have hF := hF.trans hF1.toR
    refine k_goto hK ti_99_20 jt_20_8 ?_
    refine k_ireturn hK ti_99_28 rk_99 mc_99 ms_99 (Nat.le_of_ble_eq_true rfl) (Nat.le_of_ble_eq_true rfl) ?_
    rw [e] at h
    exact h _ (RA.ok hF hG hL h0)

set_option maxRecDepth 100000 in
set_option maxHeartbeats 4000000 in
theorem sp_X4_told {X : dp_X} {d n : Nat} {M : dp_M} {o : Int64} {Q : dp_Q} (h65 : 65 ≤ n) {s : GSt} {l : LSt} (x y : Int32) (hG : RG M s) (hL : RLt M l) (h : ∀ M', RA M M' (fc_told s l x y) → Q (.inl (some (.int (u_r (fc_told s l x y))))) M' o) : dp_run X (d + 4 + 1) 103 [.ref 22, .int x, .int y] n M o Q := by
  apply k_run
  intro K hK
  rw [mL_103]
  show K 0 [some (.ref 22), some (.int x), some (.int y)] [] n 0 0 M o
  have hA16 := hG.1.1
  have hC6 := hG.1.2.1
  refine k_aload_n hK ti_103_0 rfl ?_
  refine k_iconst hK ti_103_1 kI_0 ?_
  refine k_put hK ti_103_2 ow_103 fd_4_19 (by omega) rfl rfl ?_
  have hF : Fr wR M (dp_up M 22 0 (nI 0)) := Fr.up0 _ (Fr.refl _ _)
  replace hG := hG.up0 (nI 0)
  replace hL := hL.up0 (nI 0)
  have h0 : dp_up M 22 0 (nI 0) 22 0 = nI 0 := dp_up_s _ _ _ _
  generalize hM9 : dp_up M 22 0 (nI 0) = M9 at hF hG hL h0 ⊢
  clear hM9
  refine k_aload_n hK ti_103_5 rfl ?_
  refine k_iload_n hK ti_103_6 rfl ?_
  refine k_callV hK (as := [.int _]) (st' := []) ti_103_7 ow_103 iv_4_44 mc_103 ms_103 rfl rfl (by omega) (Nat.le_of_ble_eq_true rfl) (Nat.le_of_ble_eq_true rfl) (Nat.le_of_ble_eq_true rfl) (Nat.le_of_ble_eq_true rfl) (by omega) rfl ?_
  refine sp_X4_isArticle (by omega) _ hG ?_
  refine kb_eq hK ti_103_10 jt_10_21 (fun c_10 => ?_) (fun c_10 => ?_)
  · have e : fc_told s l x y = bad 1 0 s l := by simp only [fc_told, is_f c_10]
    refine k_aload_n hK ti_103_31 rfl ?_
    refine k_iconst hK ti_103_32 kI_1 ?_
    refine k_callV hK (as := [.int _]) (st' := []) ti_103_33 ow_103 iv_4_40 mc_103 ms_103 rfl rfl (by omega) (Nat.le_of_ble_eq_true rfl) (Nat.le_of_ble_eq_true rfl) (Nat.le_of_ble_eq_true rfl) (Nat.le_of_ble_eq_true rfl) (by omega) rfl ?_
    refine sp_X4_fail (by omega) _ ?_
    refine k_ireturn hK ti_103_36 rk_103 mc_103 ms_103 (Nat.le_of_ble_eq_true rfl) (Nat.le_of_ble_eq_true rfl) ?_
    rw [e] at h
    exact h _ (RA.bad rfl hF hG hL)
  · obtain ⟨a, hx_a⟩ := is_t c_10
    obtain ⟨hl_a, rfl⟩ := ix_some hx_a (by omega)
    refine k_iload_n hK ti_103_13 rfl ?_
    refine k_iconst hK ti_103_14 kI_0 ?_
    refine k_iconst hK ti_103_15 kI_3 ?_
    refine k_callS hK (as := [.int _, .int _, .int _]) (st' := []) ti_103_16 ow_103 iv_4_26 mc_103 ms_103 rfl rfl (by omega) (Nat.le_of_ble_eq_true rfl) (Nat.le_of_ble_eq_true rfl) (Nat.le_of_ble_eq_true rfl) (Nat.le_of_ble_eq_true rfl) ?_
    refine sp_X4_isIn (by omega) _ _ _ (k_aftv (bl ((ix 4 y).isSome)) (congrArg bl (isin_ixc (by decide) (by decide))) ?_)
    refine kb_eq hK ti_103_19 jt_19_12 (fun c_19 => ?_) (fun c_19 => ?_)
    · have e : fc_told s l (nI a) y = bad 1 0 s l := by simp only [fc_told, hx_a, is_f c_19]
      refine k_aload_n hK ti_103_31 rfl ?_
      refine k_iconst hK ti_103_32 kI_1 ?_
      refine k_callV hK (as := [.int _]) (st' := []) ti_103_33 ow_103 iv_4_40 mc_103 ms_103 rfl rfl (by omega) (Nat.le_of_ble_eq_true rfl) (Nat.le_of_ble_eq_true rfl) (Nat.le_of_ble_eq_true rfl) (Nat.le_of_ble_eq_true rfl) (by omega) rfl ?_
      refine sp_X4_fail (by omega) _ ?_
      refine k_ireturn hK ti_103_36 rk_103 mc_103 ms_103 (Nat.le_of_ble_eq_true rfl) (Nat.le_of_ble_eq_true rfl) ?_
      rw [e] at h
      exact h _ (RA.bad rfl hF hG hL)
    · obtain ⟨w, hx_w⟩ := is_t c_19
      obtain ⟨hl_w, rfl⟩ := ix_some hx_w (by omega)
      refine k_aload_n hK ti_103_22 rfl ?_
      refine k_iload_n hK ti_103_23 rfl ?_
      refine k_iload_n hK ti_103_24 rfl ?_
      have e : fc_told s l (nI a) (nI w) = ok (aT s l a w) s l := by simp only [fc_told, hx_a, hx_w]
      refine k_callV hK (as := [.int _, .int _]) (st' := []) ti_103_25 ow_103 iv_4_116 mc_103 ms_103 rfl rfl (by omega) (Nat.le_of_ble_eq_true rfl) (Nat.le_of_ble_eq_true rfl) (Nat.le_of_ble_eq_true rfl) (Nat.le_of_ble_eq_true rfl) (by omega) rfl ?_
      refine sp_X4_articleTold (by omega) a w hG hL (by omega) (by omega) ?_
      refine k_goto hK ti_103_28 jt_28_8 ?_
      refine k_ireturn hK ti_103_36 rk_103 mc_103 ms_103 (Nat.le_of_ble_eq_true rfl) (Nat.le_of_ble_eq_true rfl) ?_
      rw [e] at h
      exact h _ (RA.ok hF hG hL h0)

set_option maxRecDepth 100000 in
set_option maxHeartbeats 4000000 in
theorem sp_X4_about {X : dp_X} {d n : Nat} {M : dp_M} {o : Int64} {Q : dp_Q} (h65 : 65 ≤ n) {s : GSt} {l : LSt} (x y : Int32) (hG : RG M s) (hL : RLt M l) (h : ∀ M', RA M M' (fc_about s l x y) → Q (.inl (some (.int (u_r (fc_about s l x y))))) M' o) : dp_run X (d + 7 + 1) 107 [.ref 22, .int x, .int y] n M o Q := by
  apply k_run
  intro K hK
  rw [mL_107]
  show K 0 [some (.ref 22), some (.int x), some (.int y)] [] n 0 0 M o
  have hA16 := hG.1.1
  have hC6 := hG.1.2.1
  refine k_aload_n hK ti_107_0 rfl ?_
  refine k_iconst hK ti_107_1 kI_0 ?_
  refine k_put hK ti_107_2 ow_107 fd_4_19 (by omega) rfl rfl ?_
  have hF : Fr wR M (dp_up M 22 0 (nI 0)) := Fr.up0 _ (Fr.refl _ _)
  replace hG := hG.up0 (nI 0)
  replace hL := hL.up0 (nI 0)
  have h0 : dp_up M 22 0 (nI 0) 22 0 = nI 0 := dp_up_s _ _ _ _
  generalize hM9 : dp_up M 22 0 (nI 0) = M9 at hF hG hL h0 ⊢
  clear hM9
  refine k_aload_n hK ti_107_5 rfl ?_
  refine k_iload_n hK ti_107_6 rfl ?_
  refine k_callV hK (as := [.int _]) (st' := []) ti_107_7 ow_107 iv_4_64 mc_107 ms_107 rfl rfl (by omega) (Nat.le_of_ble_eq_true rfl) (Nat.le_of_ble_eq_true rfl) (Nat.le_of_ble_eq_true rfl) (Nat.le_of_ble_eq_true rfl) (by omega) rfl ?_
  refine sp_X4_isClient (by omega) _ hG ?_
  refine kb_eq hK ti_107_10 jt_10_21 (fun c_10 => ?_) (fun c_10 => ?_)
  · have e : fc_about s l x y = bad 1 0 s l := by simp only [fc_about, is_f c_10]
    refine k_aload_n hK ti_107_31 rfl ?_
    refine k_iconst hK ti_107_32 kI_1 ?_
    refine k_callV hK (as := [.int _]) (st' := []) ti_107_33 ow_107 iv_4_40 mc_107 ms_107 rfl rfl (by omega) (Nat.le_of_ble_eq_true rfl) (Nat.le_of_ble_eq_true rfl) (Nat.le_of_ble_eq_true rfl) (Nat.le_of_ble_eq_true rfl) (by omega) rfl ?_
    refine sp_X4_fail (by omega) _ ?_
    refine k_ireturn hK ti_107_36 rk_107 mc_107 ms_107 (Nat.le_of_ble_eq_true rfl) (Nat.le_of_ble_eq_true rfl) ?_
    rw [e] at h
    exact h _ (RA.bad rfl hF hG hL)
  · obtain ⟨c, hx_c⟩ := is_t c_10
    obtain ⟨hl_c, rfl⟩ := ix_some hx_c (by omega)
    refine k_iload_n hK ti_107_13 rfl ?_
    refine k_iconst hK ti_107_14 kI_0 ?_
    refine k_iconst hK ti_107_15 kI_5 ?_
    refine k_callS hK (as := [.int _, .int _, .int _]) (st' := []) ti_107_16 ow_107 iv_4_26 mc_107 ms_107 rfl rfl (by omega) (Nat.le_of_ble_eq_true rfl) (Nat.le_of_ble_eq_true rfl) (Nat.le_of_ble_eq_true rfl) (Nat.le_of_ble_eq_true rfl) ?_
    refine sp_X4_isIn (by omega) _ _ _ (k_aftv (bl ((ix 6 y).isSome)) (congrArg bl (isin_ixc (by decide) (by decide))) ?_)
    refine kb_eq hK ti_107_19 jt_19_12 (fun c_19 => ?_) (fun c_19 => ?_)
    · have e : fc_about s l (nI c) y = bad 1 0 s l := by simp only [fc_about, hx_c, is_f c_19]
      refine k_aload_n hK ti_107_31 rfl ?_
      refine k_iconst hK ti_107_32 kI_1 ?_
      refine k_callV hK (as := [.int _]) (st' := []) ti_107_33 ow_107 iv_4_40 mc_107 ms_107 rfl rfl (by omega) (Nat.le_of_ble_eq_true rfl) (Nat.le_of_ble_eq_true rfl) (Nat.le_of_ble_eq_true rfl) (Nat.le_of_ble_eq_true rfl) (by omega) rfl ?_
      refine sp_X4_fail (by omega) _ ?_
      refine k_ireturn hK ti_107_36 rk_107 mc_107 ms_107 (Nat.le_of_ble_eq_true rfl) (Nat.le_of_ble_eq_true rfl) ?_
      rw [e] at h
      exact h _ (RA.bad rfl hF hG hL)
    · obtain ⟨w, hx_w⟩ := is_t c_19
      obtain ⟨hl_w, rfl⟩ := ix_some hx_w (by omega)
      refine k_aload_n hK ti_107_22 rfl ?_
      refine k_iload_n hK ti_107_23 rfl ?_
      refine k_iload_n hK ti_107_24 rfl ?_
      have e : fc_about s l (nI c) (nI w) = ok (cT s l c w) s l := by simp only [fc_about, hx_c, hx_w]
      refine k_callV hK (as := [.int _, .int _]) (st' := []) ti_107_25 ow_107 iv_4_125 mc_107 ms_107 rfl rfl (by omega) (Nat.le_of_ble_eq_true rfl) (Nat.le_of_ble_eq_true rfl) (Nat.le_of_ble_eq_true rfl) (Nat.le_of_ble_eq_true rfl) (by omega) rfl ?_
      refine sp_X4_clientTold (by omega) c w hG hL (by omega) (by omega) ?_
      refine k_goto hK ti_107_28 jt_28_8 ?_
      refine k_ireturn hK ti_107_36 rk_107 mc_107 ms_107 (Nat.le_of_ble_eq_true rfl) (Nat.le_of_ble_eq_true rfl) ?_
      rw [e] at h
      exact h _ (RA.ok hF hG hL h0)

set_option maxRecDepth 100000 in
set_option maxHeartbeats 4000000 in
theorem sp_X4_word {X : dp_X} {d n : Nat} {M : dp_M} {o : Int64} {Q : dp_Q} (h65 : 65 ≤ n) {s : GSt} {l : LSt} (x y : Int32) (hG : RG M s) (hL : RLt M l) (h : ∀ M', RA M M' (fc_word s l x y) → Q (.inl (some (.int (u_r (fc_word s l x y))))) M' o) : dp_run X (d + 2 + 1) 104 [.ref 22, .int x, .int y] n M o Q := by
  apply k_run
  intro K hK
  rw [mL_104]
  show K 0 [some (.ref 22), some (.int x), some (.int y)] [] n 0 0 M o
  have hA16 := hG.1.1
  have hC6 := hG.1.2.1
  refine k_aload_n hK ti_104_0 rfl ?_
  refine k_iconst hK ti_104_1 kI_0 ?_
  refine k_put hK ti_104_2 ow_104 fd_4_19 (by omega) rfl rfl ?_
  have hF : Fr wR M (dp_up M 22 0 (nI 0)) := Fr.up0 _ (Fr.refl _ _)
  replace hG := hG.up0 (nI 0)
  replace hL := hL.up0 (nI 0)
  have h0 : dp_up M 22 0 (nI 0) 22 0 = nI 0 := dp_up_s _ _ _ _
  generalize hM9 : dp_up M 22 0 (nI 0) = M9 at hF hG hL h0 ⊢
  clear hM9
  refine k_aload_n hK ti_104_5 rfl ?_
  refine k_iload_n hK ti_104_6 rfl ?_
  refine k_callV hK (as := [.int _]) (st' := []) ti_104_7 ow_104 iv_4_44 mc_104 ms_104 rfl rfl (by omega) (Nat.le_of_ble_eq_true rfl) (Nat.le_of_ble_eq_true rfl) (Nat.le_of_ble_eq_true rfl) (Nat.le_of_ble_eq_true rfl) (by omega) rfl ?_
  refine sp_X4_isArticle (by omega) _ hG ?_
  refine kb_eq hK ti_104_10 jt_10_30 (fun c_10 => ?_) (fun c_10 => ?_)
  · have e : fc_word s l x y = bad 1 0 s l := by simp only [fc_word, is_f c_10]
    refine k_aload_n hK ti_104_40 rfl ?_
    refine k_iconst hK ti_104_41 kI_1 ?_
    refine k_callV hK (as := [.int _]) (st' := []) ti_104_42 ow_104 iv_4_40 mc_104 ms_104 rfl rfl (by omega) (Nat.le_of_ble_eq_true rfl) (Nat.le_of_ble_eq_true rfl) (Nat.le_of_ble_eq_true rfl) (Nat.le_of_ble_eq_true rfl) (by omega) rfl ?_
    refine sp_X4_fail (by omega) _ ?_
    refine k_ireturn hK ti_104_45 rk_104 mc_104 ms_104 (Nat.le_of_ble_eq_true rfl) (Nat.le_of_ble_eq_true rfl) ?_
    rw [e] at h
    exact h _ (RA.bad rfl hF hG hL)
  · obtain ⟨a, hx_a⟩ := is_t c_10
    obtain ⟨hl_a, rfl⟩ := ix_some hx_a (by omega)
    have hlen := hG.1.2.2.2.1 a (by omega)
    refine k_iload_n hK ti_104_13 rfl ?_
    refine k_iconst hK ti_104_14 kI_0 ?_
    refine k_aload_n hK ti_104_15 rfl ?_
    refine k_iload_n hK ti_104_16 rfl ?_
    refine k_iconst hK ti_104_17 kI_0 ?_
    refine k_callV hK (as := [.int _, .int _]) (st' := [.int _, .int _]) ti_104_18 ow_104 iv_4_47 mc_104 ms_104 rfl rfl (by omega) (Nat.le_of_ble_eq_true rfl) (Nat.le_of_ble_eq_true rfl) (Nat.le_of_ble_eq_true rfl) (Nat.le_of_ble_eq_true rfl) (by omega) rfl ?_
    refine sp_X4_ar (by omega) a 0 (by omega) (by omega) (k_aftv ((nI (g_len s a))) (hG.2.2.2.2.1 a (by omega)) ?_)
    refine k_iconst hK ti_104_21 kI_1 ?_
    refine k_isub hK (z := (nI (g_len s a) - nI 1)) ti_104_22 rfl ?_
    refine k_callS hK (as := [.int _, .int _, .int _]) (st' := []) ti_104_23 ow_104 iv_4_26 mc_104 ms_104 rfl rfl (by omega) (Nat.le_of_ble_eq_true rfl) (Nat.le_of_ble_eq_true rfl) (Nat.le_of_ble_eq_true rfl) (Nat.le_of_ble_eq_true rfl) ?_
    refine sp_X4_isIn (by omega) _ _ _ (k_aftv (bl ((ix (g_len s a) y).isSome)) (congrArg bl (isin_ix (by omega))) ?_)
    refine kb_eq hK ti_104_26 jt_26_14 (fun c_26 => ?_) (fun c_26 => ?_)
    · have e : fc_word s l (nI a) y = bad 1 0 s l := by simp only [fc_word, hx_a, is_f c_26]
      refine k_aload_n hK ti_104_40 rfl ?_
      refine k_iconst hK ti_104_41 kI_1 ?_
      refine k_callV hK (as := [.int _]) (st' := []) ti_104_42 ow_104 iv_4_40 mc_104 ms_104 rfl rfl (by omega) (Nat.le_of_ble_eq_true rfl) (Nat.le_of_ble_eq_true rfl) (Nat.le_of_ble_eq_true rfl) (Nat.le_of_ble_eq_true rfl) (by omega) rfl ?_
      refine sp_X4_fail (by omega) _ ?_
      refine k_ireturn hK ti_104_45 rk_104 mc_104 ms_104 (Nat.le_of_ble_eq_true rfl) (Nat.le_of_ble_eq_true rfl) ?_
      rw [e] at h
      exact h _ (RA.bad rfl hF hG hL)
    · obtain ⟨p, hx_p⟩ := is_t c_26
      obtain ⟨hl_p, rfl⟩ := ix_some hx_p (by omega)
      have e : fc_word s l (nI a) (nI p) = ok (nI (g_wd s a p)) s l := by simp only [fc_word, hx_a, hx_p]
      refine k_aload_n hK ti_104_29 rfl ?_
      refine k_iload_n hK ti_104_30 rfl ?_
      refine k_iconst hK ti_104_31 kI_2 ?_
      refine k_iload_n hK ti_104_32 rfl ?_
      refine k_iadd hK (z := (nI (2 + p))) ti_104_33 (nI_add _ _) ?_
      refine k_callV hK (as := [.int _, .int _]) (st' := []) ti_104_34 ow_104 iv_4_47 mc_104 ms_104 rfl rfl (by omega) (Nat.le_of_ble_eq_true rfl) (Nat.le_of_ble_eq_true rfl) (Nat.le_of_ble_eq_true rfl) (Nat.le_of_ble_eq_true rfl) (by omega) rfl ?_
      refine sp_X4_ar (by omega) a (2 + p) (by omega) (by omega) (k_aftv ((nI (g_wd s a p))) (hG.2.2.2.2.2.1 a p (by omega) (by omega)) ?_)
      refine k_goto hK ti_104_37 jt_37_8 ?_
      refine k_ireturn hK ti_104_45 rk_104 mc_104 ms_104 (Nat.le_of_ble_eq_true rfl) (Nat.le_of_ble_eq_true rfl) ?_
      rw [e] at h
      exact h _ (RA.ok hF hG hL h0)

set_option maxRecDepth 100000 in
set_option maxHeartbeats 4000000 in
theorem sp_X4_stem {X : dp_X} {d n : Nat} {M : dp_M} {o : Int64} {Q : dp_Q} (h65 : 65 ≤ n) {s : GSt} {l : LSt} (x y : Int32) (hG : RG M s) (hL : RLt M l) (h : ∀ M', RA M M' (fc_stem s l x y) → Q (.inl (some (.int (u_r (fc_stem s l x y))))) M' o) : dp_run X (d + 2 + 1) 108 [.ref 22, .int x, .int y] n M o Q := by
  apply k_run
  intro K hK
  rw [mL_108]
  show K 0 [some (.ref 22), some (.int x), some (.int y)] [] n 0 0 M o
  have hA16 := hG.1.1
  have hC6 := hG.1.2.1
  refine k_aload_n hK ti_108_0 rfl ?_
  refine k_iconst hK ti_108_1 kI_0 ?_
  refine k_put hK ti_108_2 ow_108 fd_4_19 (by omega) rfl rfl ?_
  have hF : Fr wR M (dp_up M 22 0 (nI 0)) := Fr.up0 _ (Fr.refl _ _)
  replace hG := hG.up0 (nI 0)
  replace hL := hL.up0 (nI 0)
  have h0 : dp_up M 22 0 (nI 0) 22 0 = nI 0 := dp_up_s _ _ _ _
  generalize hM9 : dp_up M 22 0 (nI 0) = M9 at hF hG hL h0 ⊢
  clear hM9
  refine k_aload_n hK ti_108_5 rfl ?_
  refine k_iload_n hK ti_108_6 rfl ?_
  refine k_callV hK (as := [.int _]) (st' := []) ti_108_7 ow_108 iv_4_64 mc_108 ms_108 rfl rfl (by omega) (Nat.le_of_ble_eq_true rfl) (Nat.le_of_ble_eq_true rfl) (Nat.le_of_ble_eq_true rfl) (Nat.le_of_ble_eq_true rfl) (by omega) rfl ?_
  refine sp_X4_isClient (by omega) _ hG ?_
  refine kb_eq hK ti_108_10 jt_10_30 (fun c_10 => ?_) (fun c_10 => ?_)
  · have e : fc_stem s l x y = bad 1 0 s l := by simp only [fc_stem, is_f c_10]
    refine k_aload_n hK ti_108_40 rfl ?_
    refine k_iconst hK ti_108_41 kI_1 ?_
    refine k_callV hK (as := [.int _]) (st' := []) ti_108_42 ow_108 iv_4_40 mc_108 ms_108 rfl rfl (by omega) (Nat.le_of_ble_eq_true rfl) (Nat.le_of_ble_eq_true rfl) (Nat.le_of_ble_eq_true rfl) (Nat.le_of_ble_eq_true rfl) (by omega) rfl ?_
    refine sp_X4_fail (by omega) _ ?_
    refine k_ireturn hK ti_108_45 rk_108 mc_108 ms_108 (Nat.le_of_ble_eq_true rfl) (Nat.le_of_ble_eq_true rfl) ?_
    rw [e] at h
    exact h _ (RA.bad rfl hF hG hL)
  · obtain ⟨c, hx_c⟩ := is_t c_10
    obtain ⟨hl_c, rfl⟩ := ix_some hx_c (by omega)
    have hm5 := hG.1.2.2.2.2.2.1 c (by omega)
    refine k_iload_n hK ti_108_13 rfl ?_
    refine k_iconst hK ti_108_14 kI_0 ?_
    refine k_aload_n hK ti_108_15 rfl ?_
    refine k_iload_n hK ti_108_16 rfl ?_
    refine k_iconst hK ti_108_17 kI_1 ?_
    refine k_callV hK (as := [.int _, .int _]) (st' := [.int _, .int _]) ti_108_18 ow_108 iv_4_61 mc_108 ms_108 rfl rfl (by omega) (Nat.le_of_ble_eq_true rfl) (Nat.le_of_ble_eq_true rfl) (Nat.le_of_ble_eq_true rfl) (Nat.le_of_ble_eq_true rfl) (by omega) rfl ?_
    refine sp_X4_cl (by omega) c 1 (by omega) (by omega) (k_aftv ((nI (g_many s c))) (hG.2.2.2.2.2.2.1 c (by omega)) ?_)
    refine k_iconst hK ti_108_21 kI_1 ?_
    refine k_isub hK (z := (nI (g_many s c) - nI 1)) ti_108_22 rfl ?_
    refine k_callS hK (as := [.int _, .int _, .int _]) (st' := []) ti_108_23 ow_108 iv_4_26 mc_108 ms_108 rfl rfl (by omega) (Nat.le_of_ble_eq_true rfl) (Nat.le_of_ble_eq_true rfl) (Nat.le_of_ble_eq_true rfl) (Nat.le_of_ble_eq_true rfl) ?_
    refine sp_X4_isIn (by omega) _ _ _ (k_aftv (bl ((ix (g_many s c) y).isSome)) (congrArg bl (isin_ix (by omega))) ?_)
    refine kb_eq hK ti_108_26 jt_26_14 (fun c_26 => ?_) (fun c_26 => ?_)
    · have e : fc_stem s l (nI c) y = bad 1 0 s l := by simp only [fc_stem, hx_c, is_f c_26]
      refine k_aload_n hK ti_108_40 rfl ?_
      refine k_iconst hK ti_108_41 kI_1 ?_
      refine k_callV hK (as := [.int _]) (st' := []) ti_108_42 ow_108 iv_4_40 mc_108 ms_108 rfl rfl (by omega) (Nat.le_of_ble_eq_true rfl) (Nat.le_of_ble_eq_true rfl) (Nat.le_of_ble_eq_true rfl) (Nat.le_of_ble_eq_true rfl) (by omega) rfl ?_
      refine sp_X4_fail (by omega) _ ?_
      refine k_ireturn hK ti_108_45 rk_108 mc_108 ms_108 (Nat.le_of_ble_eq_true rfl) (Nat.le_of_ble_eq_true rfl) ?_
      rw [e] at h
      exact h _ (RA.bad rfl hF hG hL)
    · obtain ⟨p, hx_p⟩ := is_t c_26
      obtain ⟨hl_p, rfl⟩ := ix_some hx_p (by omega)
      have e : fc_stem s l (nI c) (nI p) = ok (nI (g_wish s c p)) s l := by simp only [fc_stem, hx_c, hx_p]
      refine k_aload_n hK ti_108_29 rfl ?_
      refine k_iload_n hK ti_108_30 rfl ?_
      refine k_iconst hK ti_108_31 kI_5 ?_
      refine k_iload_n hK ti_108_32 rfl ?_
      refine k_iadd hK (z := (nI (5 + p))) ti_108_33 (nI_add _ _) ?_
      refine k_callV hK (as := [.int _, .int _]) (st' := []) ti_108_34 ow_108 iv_4_61 mc_108 ms_108 rfl rfl (by omega) (Nat.le_of_ble_eq_true rfl) (Nat.le_of_ble_eq_true rfl) (Nat.le_of_ble_eq_true rfl) (Nat.le_of_ble_eq_true rfl) (by omega) rfl ?_
      refine sp_X4_cl (by omega) c (5 + p) (by omega) (by omega) (k_aftv ((nI (g_wish s c p))) (hG.2.2.2.2.2.2.2.1 c p (by omega) (by omega)) ?_)
      refine k_goto hK ti_108_37 jt_37_8 ?_
      refine k_ireturn hK ti_108_45 rk_108 mc_108 ms_108 (Nat.le_of_ble_eq_true rfl) (Nat.le_of_ble_eq_true rfl) ?_
      rw [e] at h
      exact h _ (RA.ok hF hG hL h0)

set_option maxRecDepth 100000 in
set_option maxHeartbeats 4000000 in
theorem sp_X4_count {X : dp_X} {d n : Nat} {M : dp_M} {o : Int64} {Q : dp_Q} (h65 : 65 ≤ n) {s : GSt} {l : LSt} (x : Int32) (hG : RG M s) (hL : RLt M l) (h : ∀ M', RA M M' (fc_count s l x) → Q (.inl (some (.int (u_r (fc_count s l x))))) M' o) : dp_run X (d + 3 + 1) 110 [.ref 22, .int x] n M o Q := by
  apply k_run
  intro K hK
  rw [mL_110]
  show K 0 [some (.ref 22), some (.int x)] [] n 0 0 M o
  have hA16 := hG.1.1
  have hC6 := hG.1.2.1
  refine k_aload_n hK ti_110_0 rfl ?_
  refine k_iconst hK ti_110_1 kI_0 ?_
  refine k_put hK ti_110_2 ow_110 fd_4_19 (by omega) rfl rfl ?_
  have hF : Fr wR M (dp_up M 22 0 (nI 0)) := Fr.up0 _ (Fr.refl _ _)
  replace hG := hG.up0 (nI 0)
  replace hL := hL.up0 (nI 0)
  have h0 : dp_up M 22 0 (nI 0) 22 0 = nI 0 := dp_up_s _ _ _ _
  generalize hM9 : dp_up M 22 0 (nI 0) = M9 at hF hG hL h0 ⊢
  clear hM9
  refine k_iload_n hK ti_110_5 rfl ?_
  refine k_iconst hK ti_110_6 kI_0 ?_
  refine k_bipush hK ti_110_7 kB_6 ?_
  refine k_callS hK (as := [.int _, .int _, .int _]) (st' := []) ti_110_9 ow_110 iv_4_26 mc_110 ms_110 rfl rfl (by omega) (Nat.le_of_ble_eq_true rfl) (Nat.le_of_ble_eq_true rfl) (Nat.le_of_ble_eq_true rfl) (Nat.le_of_ble_eq_true rfl) ?_
  refine sp_X4_isIn (by omega) _ _ _ (k_aftv (bl ((ix 7 x).isSome)) (congrArg bl (isin_ixc (by decide) (by decide))) ?_)
  refine kb_eq hK ti_110_12 jt_12_11 (fun c_12 => ?_) (fun c_12 => ?_)
  · have e : fc_count s l x = bad 1 0 s l := by simp only [fc_count, is_f c_12]
    refine k_aload_n hK ti_110_23 rfl ?_
    refine k_iconst hK ti_110_24 kI_1 ?_
    refine k_callV hK (as := [.int _]) (st' := []) ti_110_25 ow_110 iv_4_40 mc_110 ms_110 rfl rfl (by omega) (Nat.le_of_ble_eq_true rfl) (Nat.le_of_ble_eq_true rfl) (Nat.le_of_ble_eq_true rfl) (Nat.le_of_ble_eq_true rfl) (by omega) rfl ?_
    refine sp_X4_fail (by omega) _ ?_
    refine k_ireturn hK ti_110_28 rk_110 mc_110 ms_110 (Nat.le_of_ble_eq_true rfl) (Nat.le_of_ble_eq_true rfl) ?_
    rw [e] at h
    exact h _ (RA.bad rfl hF hG hL)
  · obtain ⟨w, hx_w⟩ := is_t c_12
    obtain ⟨hl_w, rfl⟩ := ix_some hx_w (by omega)
    have e : fc_count s l (nI w) = ok (nT s l w) s l := by simp only [fc_count, hx_w]
    refine k_aload_n hK ti_110_15 rfl ?_
    refine k_iload_n hK ti_110_16 rfl ?_
    refine k_callV hK (as := [.int _]) (st' := []) ti_110_17 ow_110 iv_4_128 mc_110 ms_110 rfl rfl (by omega) (Nat.le_of_ble_eq_true rfl) (Nat.le_of_ble_eq_true rfl) (Nat.le_of_ble_eq_true rfl) (Nat.le_of_ble_eq_true rfl) (by omega) rfl ?_
    refine sp_X4_counted (by omega) w hG hL (by omega) ?_
    refine k_goto hK ti_110_20 jt_20_8 ?_
    refine k_ireturn hK ti_110_28 rk_110 mc_110 ms_110 (Nat.le_of_ble_eq_true rfl) (Nat.le_of_ble_eq_true rfl) ?_
    rw [e] at h
    exact h _ (RA.ok hF hG hL h0)

set_option maxRecDepth 100000 in
set_option maxHeartbeats 4000000 in
theorem sp_X4_rarity {X : dp_X} {d n : Nat} {M : dp_M} {o : Int64} {Q : dp_Q} (h65 : 65 ≤ n) {s : GSt} {l : LSt} (x : Int32) (hG : RG M s) (hL : RLt M l) (h : ∀ M', RA M M' (fc_rarity s l x) → Q (.inl (some (.int (u_r (fc_rarity s l x))))) M' o) : dp_run X (d + 3 + 1) 111 [.ref 22, .int x] n M o Q := by
  apply k_run
  intro K hK
  rw [mL_111]
  show K 0 [some (.ref 22), some (.int x)] [] n 0 0 M o
  have hA16 := hG.1.1
  have hC6 := hG.1.2.1
  refine k_aload_n hK ti_111_0 rfl ?_
  refine k_iconst hK ti_111_1 kI_0 ?_
  refine k_put hK ti_111_2 ow_111 fd_4_19 (by omega) rfl rfl ?_
  have hF : Fr wR M (dp_up M 22 0 (nI 0)) := Fr.up0 _ (Fr.refl _ _)
  replace hG := hG.up0 (nI 0)
  replace hL := hL.up0 (nI 0)
  have h0 : dp_up M 22 0 (nI 0) 22 0 = nI 0 := dp_up_s _ _ _ _
  generalize hM9 : dp_up M 22 0 (nI 0) = M9 at hF hG hL h0 ⊢
  clear hM9
  refine k_iload_n hK ti_111_5 rfl ?_
  refine k_callS hK (as := [.int _]) (st' := []) ti_111_6 ow_111 iv_4_37 mc_111 ms_111 rfl rfl (by omega) (Nat.le_of_ble_eq_true rfl) (Nat.le_of_ble_eq_true rfl) (Nat.le_of_ble_eq_true rfl) (Nat.le_of_ble_eq_true rfl) ?_
  refine sp_X4_isStem (by omega) _ ?_
  refine kb_eq hK ti_111_9 jt_9_11 (fun c_9 => ?_) (fun c_9 => ?_)
  · have e : fc_rarity s l x = bad 1 0 s l := by simp only [fc_rarity, is_f c_9]
    refine k_aload_n hK ti_111_20 rfl ?_
    refine k_iconst hK ti_111_21 kI_1 ?_
    refine k_callV hK (as := [.int _]) (st' := []) ti_111_22 ow_111 iv_4_40 mc_111 ms_111 rfl rfl (by omega) (Nat.le_of_ble_eq_true rfl) (Nat.le_of_ble_eq_true rfl) (Nat.le_of_ble_eq_true rfl) (Nat.le_of_ble_eq_true rfl) (by omega) rfl ?_
    refine sp_X4_fail (by omega) _ ?_
    refine k_ireturn hK ti_111_25 rk_111 mc_111 ms_111 (Nat.le_of_ble_eq_true rfl) (Nat.le_of_ble_eq_true rfl) ?_
    rw [e] at h
    exact h _ (RA.bad rfl hF hG hL)
  · obtain ⟨w, hx_w⟩ := is_t c_9
    obtain ⟨hl_w, rfl⟩ := ix_some hx_w (by omega)
    have e : fc_rarity s l (nI w) = ok (nI (rar s w)) s l := by simp only [fc_rarity, hx_w]
    refine k_aload_n hK ti_111_12 rfl ?_
    refine k_iload_n hK ti_111_13 rfl ?_
    refine k_callV hK (as := [.int _]) (st' := []) ti_111_14 ow_111 iv_4_78 mc_111 ms_111 rfl rfl (by omega) (Nat.le_of_ble_eq_true rfl) (Nat.le_of_ble_eq_true rfl) (Nat.le_of_ble_eq_true rfl) (Nat.le_of_ble_eq_true rfl) (by omega) rfl ?_
    refine sp_X4_rare (by omega) w hG (by omega) ?_
    refine k_goto hK ti_111_17 jt_17_8 ?_
    refine k_ireturn hK ti_111_25 rk_111 mc_111 ms_111 (Nat.le_of_ble_eq_true rfl) (Nat.le_of_ble_eq_true rfl) ?_
    rw [e] at h
    exact h _ (RA.ok hF hG hL h0)

set_option maxRecDepth 100000 in
set_option maxHeartbeats 4000000 in
theorem sp_X4_score {X : dp_X} {d n : Nat} {M : dp_M} {o : Int64} {Q : dp_Q} (h65 : 65 ≤ n) {s : GSt} {l : LSt} (x y : Int32) (hG : RG M s) (hL : RLt M l) (h : ∀ M', RA M M' (fc_score s l x y) → Q (.inl (some (.int (u_r (fc_score s l x y))))) M' o) : dp_run X (d + 4 + 1) 112 [.ref 22, .int x, .int y] n M o Q := by
  apply k_run
  intro K hK
  rw [mL_112]
  show K 0 [some (.ref 22), some (.int x), some (.int y)] [] n 0 0 M o
  have hA16 := hG.1.1
  have hC6 := hG.1.2.1
  refine k_aload_n hK ti_112_0 rfl ?_
  refine k_iconst hK ti_112_1 kI_0 ?_
  refine k_put hK ti_112_2 ow_112 fd_4_19 (by omega) rfl rfl ?_
  have hF : Fr wR M (dp_up M 22 0 (nI 0)) := Fr.up0 _ (Fr.refl _ _)
  replace hG := hG.up0 (nI 0)
  replace hL := hL.up0 (nI 0)
  have h0 : dp_up M 22 0 (nI 0) 22 0 = nI 0 := dp_up_s _ _ _ _
  generalize hM9 : dp_up M 22 0 (nI 0) = M9 at hF hG hL h0 ⊢
  clear hM9
  refine k_aload_n hK ti_112_5 rfl ?_
  refine k_iload_n hK ti_112_6 rfl ?_
  refine k_callV hK (as := [.int _]) (st' := []) ti_112_7 ow_112 iv_4_64 mc_112 ms_112 rfl rfl (by omega) (Nat.le_of_ble_eq_true rfl) (Nat.le_of_ble_eq_true rfl) (Nat.le_of_ble_eq_true rfl) (Nat.le_of_ble_eq_true rfl) (by omega) rfl ?_
  refine sp_X4_isClient (by omega) _ hG ?_
  refine kb_eq hK ti_112_10 jt_10_20 (fun c_10 => ?_) (fun c_10 => ?_)
  · have e : fc_score s l x y = bad 1 0 s l := by simp only [fc_score, is_f c_10]
    refine k_aload_n hK ti_112_30 rfl ?_
    refine k_iconst hK ti_112_31 kI_1 ?_
    refine k_callV hK (as := [.int _]) (st' := []) ti_112_32 ow_112 iv_4_40 mc_112 ms_112 rfl rfl (by omega) (Nat.le_of_ble_eq_true rfl) (Nat.le_of_ble_eq_true rfl) (Nat.le_of_ble_eq_true rfl) (Nat.le_of_ble_eq_true rfl) (by omega) rfl ?_
    refine sp_X4_fail (by omega) _ ?_
    refine k_ireturn hK ti_112_35 rk_112 mc_112 ms_112 (Nat.le_of_ble_eq_true rfl) (Nat.le_of_ble_eq_true rfl) ?_
    rw [e] at h
    exact h _ (RA.bad rfl hF hG hL)
  · obtain ⟨c, hx_c⟩ := is_t c_10
    obtain ⟨hl_c, rfl⟩ := ix_some hx_c (by omega)
    refine k_aload_n hK ti_112_13 rfl ?_
    refine k_iload_n hK ti_112_14 rfl ?_
    refine k_callV hK (as := [.int _]) (st' := []) ti_112_15 ow_112 iv_4_44 mc_112 ms_112 rfl rfl (by omega) (Nat.le_of_ble_eq_true rfl) (Nat.le_of_ble_eq_true rfl) (Nat.le_of_ble_eq_true rfl) (Nat.le_of_ble_eq_true rfl) (by omega) rfl ?_
    refine sp_X4_isArticle (by omega) _ hG ?_
    refine kb_eq hK ti_112_18 jt_18_12 (fun c_18 => ?_) (fun c_18 => ?_)
    · have e : fc_score s l (nI c) y = bad 1 0 s l := by simp only [fc_score, hx_c, is_f c_18]
      refine k_aload_n hK ti_112_30 rfl ?_
      refine k_iconst hK ti_112_31 kI_1 ?_
      refine k_callV hK (as := [.int _]) (st' := []) ti_112_32 ow_112 iv_4_40 mc_112 ms_112 rfl rfl (by omega) (Nat.le_of_ble_eq_true rfl) (Nat.le_of_ble_eq_true rfl) (Nat.le_of_ble_eq_true rfl) (Nat.le_of_ble_eq_true rfl) (by omega) rfl ?_
      refine sp_X4_fail (by omega) _ ?_
      refine k_ireturn hK ti_112_35 rk_112 mc_112 ms_112 (Nat.le_of_ble_eq_true rfl) (Nat.le_of_ble_eq_true rfl) ?_
      rw [e] at h
      exact h _ (RA.bad rfl hF hG hL)
    · obtain ⟨a, hx_a⟩ := is_t c_18
      obtain ⟨hl_a, rfl⟩ := ix_some hx_a (by omega)
      have e : fc_score s l (nI c) (nI a) = ok (sc s l c a) s l := by simp only [fc_score, hx_c, hx_a]
      refine k_aload_n hK ti_112_21 rfl ?_
      refine k_iload_n hK ti_112_22 rfl ?_
      refine k_iload_n hK ti_112_23 rfl ?_
      refine k_callV hK (as := [.int _, .int _]) (st' := []) ti_112_24 ow_112 iv_4_84 mc_112 ms_112 rfl rfl (by omega) (Nat.le_of_ble_eq_true rfl) (Nat.le_of_ble_eq_true rfl) (Nat.le_of_ble_eq_true rfl) (Nat.le_of_ble_eq_true rfl) (by omega) rfl ?_
      refine sp_X4_scored (by omega) c a hG hL (by omega) (by omega) ?_
      refine k_goto hK ti_112_27 jt_27_8 ?_
      refine k_ireturn hK ti_112_35 rk_112 mc_112 ms_112 (Nat.le_of_ble_eq_true rfl) (Nat.le_of_ble_eq_true rfl) ?_
      rw [e] at h
      exact h _ (RA.ok hF hG hL h0)

set_option maxRecDepth 100000 in
set_option maxHeartbeats 4000000 in
theorem sp_X4_fit {X : dp_X} {d n : Nat} {M : dp_M} {o : Int64} {Q : dp_Q} (h65 : 65 ≤ n) {s : GSt} {l : LSt} (x y : Int32) (hG : RG M s) (hL : RLt M l) (h : ∀ M', RA M M' (fc_fit s l x y) → Q (.inl (some (.int (u_r (fc_fit s l x y))))) M' o) : dp_run X (d + 6 + 1) 113 [.ref 22, .int x, .int y] n M o Q := by
  apply k_run
  intro K hK
  rw [mL_113]
  show K 0 [some (.ref 22), some (.int x), some (.int y)] [] n 0 0 M o
  have hA16 := hG.1.1
  have hC6 := hG.1.2.1
  refine k_aload_n hK ti_113_0 rfl ?_
  refine k_iconst hK ti_113_1 kI_0 ?_
  refine k_put hK ti_113_2 ow_113 fd_4_19 (by omega) rfl rfl ?_
  have hF : Fr wR M (dp_up M 22 0 (nI 0)) := Fr.up0 _ (Fr.refl _ _)
  replace hG := hG.up0 (nI 0)
  replace hL := hL.up0 (nI 0)
  have h0 : dp_up M 22 0 (nI 0) 22 0 = nI 0 := dp_up_s _ _ _ _
  generalize hM9 : dp_up M 22 0 (nI 0) = M9 at hF hG hL h0 ⊢
  clear hM9
  refine k_aload_n hK ti_113_5 rfl ?_
  refine k_iload_n hK ti_113_6 rfl ?_
  refine k_callV hK (as := [.int _]) (st' := []) ti_113_7 ow_113 iv_4_64 mc_113 ms_113 rfl rfl (by omega) (Nat.le_of_ble_eq_true rfl) (Nat.le_of_ble_eq_true rfl) (Nat.le_of_ble_eq_true rfl) (Nat.le_of_ble_eq_true rfl) (by omega) rfl ?_
  refine sp_X4_isClient (by omega) _ hG ?_
  refine kb_eq hK ti_113_10 jt_10_27 (fun c_10 => ?_) (fun c_10 => ?_)
  · have e : fc_fit s l x y = bad 1 0 s l := by simp only [fc_fit, is_f c_10]
    refine k_aload_n hK ti_113_37 rfl ?_
    refine k_iconst hK ti_113_38 kI_1 ?_
    refine k_callV hK (as := [.int _]) (st' := []) ti_113_39 ow_113 iv_4_40 mc_113 ms_113 rfl rfl (by omega) (Nat.le_of_ble_eq_true rfl) (Nat.le_of_ble_eq_true rfl) (Nat.le_of_ble_eq_true rfl) (Nat.le_of_ble_eq_true rfl) (by omega) rfl ?_
    refine sp_X4_fail (by omega) _ ?_
    refine k_ireturn hK ti_113_42 rk_113 mc_113 ms_113 (Nat.le_of_ble_eq_true rfl) (Nat.le_of_ble_eq_true rfl) ?_
    rw [e] at h
    exact h _ (RA.bad rfl hF hG hL)
  · obtain ⟨c, hx_c⟩ := is_t c_10
    obtain ⟨hl_c, rfl⟩ := ix_some hx_c (by omega)
    have hfts : fts s l c ≤ g_nA s := cnt_le _ _
    refine k_iload_n hK ti_113_13 rfl ?_
    refine k_iconst hK ti_113_14 kI_0 ?_
    refine k_aload_n hK ti_113_15 rfl ?_
    refine k_iload_n hK ti_113_16 rfl ?_
    refine k_callV hK (as := [.int _]) (st' := [.int _, .int _]) ti_113_17 ow_113 iv_4_122 mc_113 ms_113 rfl rfl (by omega) (Nat.le_of_ble_eq_true rfl) (Nat.le_of_ble_eq_true rfl) (Nat.le_of_ble_eq_true rfl) (Nat.le_of_ble_eq_true rfl) (by omega) rfl ?_
    refine sp_X4_fits (by omega) c hG hL (by omega) ?_
    refine k_iconst hK ti_113_20 kI_1 ?_
    refine k_isub hK (z := (nI (fts s l c) - nI 1)) ti_113_21 rfl ?_
    refine k_callS hK (as := [.int _, .int _, .int _]) (st' := []) ti_113_22 ow_113 iv_4_26 mc_113 ms_113 rfl rfl (by omega) (Nat.le_of_ble_eq_true rfl) (Nat.le_of_ble_eq_true rfl) (Nat.le_of_ble_eq_true rfl) (Nat.le_of_ble_eq_true rfl) ?_
    refine sp_X4_isIn (by omega) _ _ _ (k_aftv (bl ((ix (fts s l c) y).isSome)) (congrArg bl (isin_ix (by omega))) ?_)
    refine kb_eq hK ti_113_25 jt_25_12 (fun c_25 => ?_) (fun c_25 => ?_)
    · have e : fc_fit s l (nI c) y = bad 1 0 s l := by simp only [fc_fit, hx_c, is_f c_25]
      refine k_aload_n hK ti_113_37 rfl ?_
      refine k_iconst hK ti_113_38 kI_1 ?_
      refine k_callV hK (as := [.int _]) (st' := []) ti_113_39 ow_113 iv_4_40 mc_113 ms_113 rfl rfl (by omega) (Nat.le_of_ble_eq_true rfl) (Nat.le_of_ble_eq_true rfl) (Nat.le_of_ble_eq_true rfl) (Nat.le_of_ble_eq_true rfl) (by omega) rfl ?_
      refine sp_X4_fail (by omega) _ ?_
      refine k_ireturn hK ti_113_42 rk_113 mc_113 ms_113 (Nat.le_of_ble_eq_true rfl) (Nat.le_of_ble_eq_true rfl) ?_
      rw [e] at h
      exact h _ (RA.bad rfl hF hG hL)
    · obtain ⟨p, hx_p⟩ := is_t c_25
      obtain ⟨hl_p, rfl⟩ := ix_some hx_p (by omega)
      have e : fc_fit s l (nI c) (nI p) = ok (oI (fA s l c p)) s l := by simp only [fc_fit, hx_c, hx_p]
      refine k_aload_n hK ti_113_28 rfl ?_
      refine k_iload_n hK ti_113_29 rfl ?_
      refine k_iload_n hK ti_113_30 rfl ?_
      refine k_callV hK (as := [.int _, .int _]) (st' := []) ti_113_31 ow_113 iv_4_91 mc_113 ms_113 rfl rfl (by omega) (Nat.le_of_ble_eq_true rfl) (Nat.le_of_ble_eq_true rfl) (Nat.le_of_ble_eq_true rfl) (Nat.le_of_ble_eq_true rfl) (by omega) rfl ?_
      refine sp_X4_fitAt (by omega) c p hG hL (by omega) (by omega) ?_
      refine k_goto hK ti_113_34 jt_34_8 ?_
      refine k_ireturn hK ti_113_42 rk_113 mc_113 ms_113 (Nat.le_of_ble_eq_true rfl) (Nat.le_of_ble_eq_true rfl) ?_
      rw [e] at h
      exact h _ (RA.ok hF hG hL h0)
