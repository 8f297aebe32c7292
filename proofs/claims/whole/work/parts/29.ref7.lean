/-! The reference: its face, what changes; the digest. (written by wip/whole/ref7.py) -/
set_option maxRecDepth 100000 in
set_option maxHeartbeats 4000000 in
theorem sp_X4_setStem {X : dp_X} {d n : Nat} {M : dp_M} {o : Int64} {Q : dp_Q} (h65 : 65 ≤ n) {s : GSt} {l : LSt} (x y : Int32) (hG : RG M s) (hL : RLt M l) (h : ∀ M', RA M M' (fc_setStem s l x y) → Q (.inl (some (.int (u_r (fc_setStem s l x y))))) M' o) : dp_run X (d + 2 + 1) 78 [.ref 22, .int x, .int y] n M o Q := by
  apply k_run
  intro K hK
  rw [mL_78]
  show K 0 [some (.ref 22), some (.int x), some (.int y), none] [] n 0 0 M o
  have hA16 := hG.1.1
  have hC6 := hG.1.2.1
  refine k_aload_n hK ti_78_0 rfl ?_
  refine k_iconst hK ti_78_1 kI_0 ?_
  refine k_put hK ti_78_2 ow_78 fd_4_19 (by omega) rfl rfl ?_
  have hF : Fr wR M (dp_up M 22 0 (nI 0)) := Fr.up0 _ (Fr.refl _ _)
  replace hG := hG.up0 (nI 0)
  replace hL := hL.up0 (nI 0)
  have h0 : dp_up M 22 0 (nI 0) 22 0 = nI 0 := dp_up_s _ _ _ _
  generalize hM9 : dp_up M 22 0 (nI 0) = M9 at hF hG hL h0 ⊢
  clear hM9
  refine k_iload_n hK ti_78_5 rfl ?_
  refine k_callS hK (as := [.int _]) (st' := []) ti_78_6 ow_78 iv_4_33 mc_78 ms_78 rfl rfl (by omega) (Nat.le_of_ble_eq_true rfl) (Nat.le_of_ble_eq_true rfl) (Nat.le_of_ble_eq_true rfl) (Nat.le_of_ble_eq_true rfl) ?_
  refine sp_X4_isWord (by omega) _ ?_
  refine kb_eq hK ti_78_9 jt_9_10 (fun c_9 => ?_) (fun c_9 => ?_)
  · have e : fc_setStem s l x y = bad 1 0 s l := by simp only [fc_setStem, is_f c_9]
    refine k_aload_n hK ti_78_19 rfl ?_
    refine k_iconst hK ti_78_20 kI_1 ?_
    refine k_callV hK (as := [.int _]) (st' := []) ti_78_21 ow_78 iv_4_40 mc_78 ms_78 rfl rfl (by omega) (Nat.le_of_ble_eq_true rfl) (Nat.le_of_ble_eq_true rfl) (Nat.le_of_ble_eq_true rfl) (Nat.le_of_ble_eq_true rfl) (by omega) rfl ?_
    refine sp_X4_fail (by omega) _ ?_
    refine k_ireturn hK ti_78_24 rk_78 mc_78 ms_78 (Nat.le_of_ble_eq_true rfl) (Nat.le_of_ble_eq_true rfl) ?_
    rw [e] at h
    exact h _ (RA.bad rfl hF hG hL)
  · obtain ⟨a, hx_a⟩ := is_t c_9
    obtain ⟨hl_a, rfl⟩ := ix_some hx_a (by omega)
    refine k_iload_n hK ti_78_12 rfl ?_
    refine k_callS hK (as := [.int _]) (st' := []) ti_78_13 ow_78 iv_4_37 mc_78 ms_78 rfl rfl (by omega) (Nat.le_of_ble_eq_true rfl) (Nat.le_of_ble_eq_true rfl) (Nat.le_of_ble_eq_true rfl) (Nat.le_of_ble_eq_true rfl) ?_
    refine sp_X4_isStem (by omega) _ ?_
    refine kb_ne hK ti_78_16 jt_16_9 (fun c_16 => ?_) (fun c_16 => ?_)
    · have e : fc_setStem s l (nI a) y = bad 1 0 s l := by simp only [fc_setStem, hx_a, is_f c_16]
      refine k_aload_n hK ti_78_19 rfl ?_
      refine k_iconst hK ti_78_20 kI_1 ?_
      refine k_callV hK (as := [.int _]) (st' := []) ti_78_21 ow_78 iv_4_40 mc_78 ms_78 rfl rfl (by omega) (Nat.le_of_ble_eq_true rfl) (Nat.le_of_ble_eq_true rfl) (Nat.le_of_ble_eq_true rfl) (Nat.le_of_ble_eq_true rfl) (by omega) rfl ?_
      refine sp_X4_fail (by omega) _ ?_
      refine k_ireturn hK ti_78_24 rk_78 mc_78 ms_78 (Nat.le_of_ble_eq_true rfl) (Nat.le_of_ble_eq_true rfl) ?_
      rw [e] at h
      exact h _ (RA.bad rfl hF hG hL)
    · obtain ⟨b, hx_b⟩ := is_t c_16
      obtain ⟨hl_b, rfl⟩ := ix_some hx_b (by omega)
      have e : fc_setStem s l (nI a) (nI b) = ok (nI (g_st s a)) (setSt s a b) l := by simp only [fc_setStem, hx_a, hx_b]
      refine k_aload_n hK ti_78_25 rfl ?_
      refine k_get hK ti_78_26 ow_78 fd_4_9 (by omega) rfl rfl ?_
      refine k_iload_n hK ti_78_29 rfl ?_
      refine k_ialdv (v := (nI (g_st s a))) hK a ti_78_30 rfl (by omega) (by omega) rfl (by rw [dpl_23]; omega) (hG.2.2.2.1 a (by omega)) ?_
      refine k_istore_n hK (L' := [some (.ref 22), some (.int _), some (.int _), some (.int _)]) ti_78_31 rfl ?_
      refine k_aload_n hK ti_78_32 rfl ?_
      refine k_get hK ti_78_33 ow_78 fd_4_9 (by omega) rfl rfl ?_
      refine k_iload_n hK ti_78_36 rfl ?_
      refine k_iload_n hK ti_78_37 rfl ?_
      refine k_iast hK a ti_78_38 rfl (by omega) rfl (by rw [dpl_23]; omega) ?_
      refine k_iload_n hK ti_78_39 rfl ?_
      refine k_ireturn hK ti_78_40 rk_78 mc_78 ms_78 (Nat.le_of_ble_eq_true rfl) (Nat.le_of_ble_eq_true rfl) ?_
      rw [e] at h
      exact h _ ⟨(Fr.up hF (Or.inl (by decide))), RG_setSt hG (by omega), (RLt_c2 (fun a9 _ => by (repeat (first | rw [dp_up_h (by decide)] | rw [dp_up_k (by omega)] | rw [dp_row_ne (by decide)]))) (fun c9 _ => ⟨by (repeat (first | rw [dp_up_h (by decide)] | rw [dp_up_k (by omega)] | rw [dp_row_ne (by decide)])), by (repeat (first | rw [dp_up_h (by decide)] | rw [dp_up_k (by omega)] | rw [dp_row_ne (by decide)])), by (repeat (first | rw [dp_up_h (by decide)] | rw [dp_up_k (by omega)] | rw [dp_row_ne (by decide)]))⟩) (by (repeat (first | rw [dp_up_h (by decide)] | rw [dp_up_k (by omega)] | rw [dp_row_ne (by decide)]))) hL), (by (repeat (first | rw [dp_up_h (by decide)] | rw [dp_up_k (by omega)] | rw [dp_row_ne (by decide)])); exact h0)⟩

set_option maxRecDepth 100000 in
set_option maxHeartbeats 4000000 in
theorem sp_X4_print {X : dp_X} {d n : Nat} {M : dp_M} {o : Int64} {Q : dp_Q} (h65 : 65 ≤ n) {s : GSt} {l : LSt} (hG : RG M s) (hL : RLt M l) (h : ∀ M', RA M M' (fc_print s l) → Q (.inl (some (.int (u_r (fc_print s l))))) M' o) : dp_run X (d + 1 + 1) 79 [.ref 22] n M o Q := by
  apply k_run
  intro K hK
  rw [mL_79]
  show K 0 [some (.ref 22)] [] n 0 0 M o
  have hA16 := hG.1.1
  have hC6 := hG.1.2.1
  refine k_aload_n hK ti_79_0 rfl ?_
  refine k_iconst hK ti_79_1 kI_0 ?_
  refine k_put hK ti_79_2 ow_79 fd_4_19 (by omega) rfl rfl ?_
  have hF : Fr wR M (dp_up M 22 0 (nI 0)) := Fr.up0 _ (Fr.refl _ _)
  replace hG := hG.up0 (nI 0)
  replace hL := hL.up0 (nI 0)
  have h0 : dp_up M 22 0 (nI 0) 22 0 = nI 0 := dp_up_s _ _ _ _
  generalize hM9 : dp_up M 22 0 (nI 0) = M9 at hF hG hL h0 ⊢
  clear hM9
  refine k_aload_n hK ti_79_5 rfl ?_
  refine k_geti hK (nI (g_nA s)) ti_79_6 ow_79 fd_4_23 (by omega) rfl rfl hG.2.1 ?_
  refine k_bipush hK ti_79_9 kB_16 ?_
  refine kn_ne hK (by omega) (by omega) ti_79_11 jt_11_9 (fun c_11 => ?_) (fun c_11 => ?_)
  · have e : fc_print s l = bad 1 1 s l := by unfold fc_print; rw [if_pos c_11]
    refine k_aload_n hK ti_79_14 rfl ?_
    refine k_iconst hK ti_79_15 kI_1 ?_
    refine k_callV hK (as := [.int _]) (st' := []) ti_79_16 ow_79 iv_4_40 mc_79 ms_79 rfl rfl (by omega) (Nat.le_of_ble_eq_true rfl) (Nat.le_of_ble_eq_true rfl) (Nat.le_of_ble_eq_true rfl) (Nat.le_of_ble_eq_true rfl) (by omega) rfl ?_
    refine sp_X4_fail (by omega) _ ?_
    refine k_ireturn hK ti_79_19 rk_79 mc_79 ms_79 (Nat.le_of_ble_eq_true rfl) (Nat.le_of_ble_eq_true rfl) ?_
    rw [e] at h
    exact h _ (RA.bad rfl hF hG hL)
  · have e : fc_print s l = ok (nI (g_nA s)) (prt s) l := by unfold fc_print; rw [if_neg c_11]
    refine k_aload_n hK ti_79_20 rfl ?_
    refine k_dup hK ti_79_21 rfl ?_
    refine k_geti hK (nI (g_nA s)) ti_79_22 ow_79 fd_4_23 (by omega) rfl rfl hG.2.1 ?_
    refine k_iconst hK ti_79_25 kI_1 ?_
    refine k_iadd hK (z := (nI (g_nA s + 1))) ti_79_26 (nI_add _ _) ?_
    refine k_put hK ti_79_27 ow_79 fd_4_23 (by omega) rfl rfl ?_
    refine k_aload_n hK ti_79_30 rfl ?_
    refine k_geti hK (nI (g_nA s + 1)) ti_79_31 ow_79 fd_4_23 (by omega) rfl rfl (dp_up_s _ _ _ _) ?_
    refine k_iconst hK ti_79_34 kI_1 ?_
    refine k_isub hK (z := (nI (g_nA s))) ti_79_35 (pk_sub (by omega)) ?_
    refine k_ireturn hK ti_79_36 rk_79 mc_79 ms_79 (Nat.le_of_ble_eq_true rfl) (Nat.le_of_ble_eq_true rfl) ?_
    rw [e] at h
    exact h _ ⟨(Fr.up hF (Or.inl (by decide))), RG_prt hG (by omega), (RLt_c2 (fun a9 _ => by (repeat (first | rw [dp_up_h (by decide)] | rw [dp_up_k (by omega)] | rw [dp_row_ne (by decide)]))) (fun c9 _ => ⟨by (repeat (first | rw [dp_up_h (by decide)] | rw [dp_up_k (by omega)] | rw [dp_row_ne (by decide)])), by (repeat (first | rw [dp_up_h (by decide)] | rw [dp_up_k (by omega)] | rw [dp_row_ne (by decide)])), by (repeat (first | rw [dp_up_h (by decide)] | rw [dp_up_k (by omega)] | rw [dp_row_ne (by decide)]))⟩) (by (repeat (first | rw [dp_up_h (by decide)] | rw [dp_up_k (by omega)] | rw [dp_row_ne (by decide)]))) hL), (by (repeat (first | rw [dp_up_h (by decide)] | rw [dp_up_k (by omega)] | rw [dp_row_ne (by decide)])); exact h0)⟩

set_option maxRecDepth 100000 in
set_option maxHeartbeats 4000000 in
theorem sp_X4_write {X : dp_X} {d n : Nat} {M : dp_M} {o : Int64} {Q : dp_Q} (h65 : 65 ≤ n) {s : GSt} {l : LSt} (x y : Int32) (hG : RG M s) (hL : RLt M l) (h : ∀ M', RA M M' (fc_write s l x y) → Q (.inl (some (.int (u_r (fc_write s l x y))))) M' o) : dp_run X (d + 2 + 1) 80 [.ref 22, .int x, .int y] n M o Q := by
  apply k_run
  intro K hK
  rw [mL_80]
  show K 0 [some (.ref 22), some (.int x), some (.int y), none] [] n 0 0 M o
  have hA16 := hG.1.1
  have hC6 := hG.1.2.1
  refine k_aload_n hK ti_80_0 rfl ?_
  refine k_iconst hK ti_80_1 kI_0 ?_
  refine k_put hK ti_80_2 ow_80 fd_4_19 (by omega) rfl rfl ?_
  have hF : Fr wR M (dp_up M 22 0 (nI 0)) := Fr.up0 _ (Fr.refl _ _)
  replace hG := hG.up0 (nI 0)
  replace hL := hL.up0 (nI 0)
  have h0 : dp_up M 22 0 (nI 0) 22 0 = nI 0 := dp_up_s _ _ _ _
  generalize hM9 : dp_up M 22 0 (nI 0) = M9 at hF hG hL h0 ⊢
  clear hM9
  refine k_aload_n hK ti_80_5 rfl ?_
  refine k_iload_n hK ti_80_6 rfl ?_
  refine k_callV hK (as := [.int _]) (st' := []) ti_80_7 ow_80 iv_4_44 mc_80 ms_80 rfl rfl (by omega) (Nat.le_of_ble_eq_true rfl) (Nat.le_of_ble_eq_true rfl) (Nat.le_of_ble_eq_true rfl) (Nat.le_of_ble_eq_true rfl) (by omega) rfl ?_
  refine sp_X4_isArticle (by omega) _ hG ?_
  refine kb_eq hK ti_80_10 jt_10_10 (fun c_10 => ?_) (fun c_10 => ?_)
  · have e : fc_write s l x y = bad 1 0 s l := by simp only [fc_write, is_f c_10]
    refine k_aload_n hK ti_80_20 rfl ?_
    refine k_iconst hK ti_80_21 kI_1 ?_
    refine k_callV hK (as := [.int _]) (st' := []) ti_80_22 ow_80 iv_4_40 mc_80 ms_80 rfl rfl (by omega) (Nat.le_of_ble_eq_true rfl) (Nat.le_of_ble_eq_true rfl) (Nat.le_of_ble_eq_true rfl) (Nat.le_of_ble_eq_true rfl) (by omega) rfl ?_
    refine sp_X4_fail (by omega) _ ?_
    refine k_ireturn hK ti_80_25 rk_80 mc_80 ms_80 (Nat.le_of_ble_eq_true rfl) (Nat.le_of_ble_eq_true rfl) ?_
    rw [e] at h
    exact h _ (RA.bad rfl hF hG hL)
  · obtain ⟨a, hx_a⟩ := is_t c_10
    obtain ⟨hl_a, rfl⟩ := ix_some hx_a (by omega)
    refine k_iload_n hK ti_80_13 rfl ?_
    refine k_callS hK (as := [.int _]) (st' := []) ti_80_14 ow_80 iv_4_33 mc_80 ms_80 rfl rfl (by omega) (Nat.le_of_ble_eq_true rfl) (Nat.le_of_ble_eq_true rfl) (Nat.le_of_ble_eq_true rfl) (Nat.le_of_ble_eq_true rfl) ?_
    refine sp_X4_isWord (by omega) _ ?_
    refine kb_ne hK ti_80_17 jt_17_9 (fun c_17 => ?_) (fun c_17 => ?_)
    · have e : fc_write s l (nI a) y = bad 1 0 s l := by simp only [fc_write, hx_a, is_f c_17]
      refine k_aload_n hK ti_80_20 rfl ?_
      refine k_iconst hK ti_80_21 kI_1 ?_
      refine k_callV hK (as := [.int _]) (st' := []) ti_80_22 ow_80 iv_4_40 mc_80 ms_80 rfl rfl (by omega) (Nat.le_of_ble_eq_true rfl) (Nat.le_of_ble_eq_true rfl) (Nat.le_of_ble_eq_true rfl) (Nat.le_of_ble_eq_true rfl) (by omega) rfl ?_
      refine sp_X4_fail (by omega) _ ?_
      refine k_ireturn hK ti_80_25 rk_80 mc_80 ms_80 (Nat.le_of_ble_eq_true rfl) (Nat.le_of_ble_eq_true rfl) ?_
      rw [e] at h
      exact h _ (RA.bad rfl hF hG hL)
    · obtain ⟨w, hx_w⟩ := is_t c_17
      obtain ⟨hl_w, rfl⟩ := ix_some hx_w (by omega)
      have hlen := hG.1.2.2.2.1 a (by omega)
      refine k_aload_n hK ti_80_26 rfl ?_
      refine k_iload_n hK ti_80_27 rfl ?_
      refine k_iconst hK ti_80_28 kI_0 ?_
      refine k_callV hK (as := [.int _, .int _]) (st' := []) ti_80_29 ow_80 iv_4_47 mc_80 ms_80 rfl rfl (by omega) (Nat.le_of_ble_eq_true rfl) (Nat.le_of_ble_eq_true rfl) (Nat.le_of_ble_eq_true rfl) (Nat.le_of_ble_eq_true rfl) (by omega) rfl ?_
      refine sp_X4_ar (by omega) a 0 (by omega) (by omega) (k_aftv ((nI (g_len s a))) (hG.2.2.2.2.1 a (by omega)) ?_)
      refine k_istore_n hK (L' := [some (.ref 22), some (.int _), some (.int _), some (.int _)]) ti_80_32 rfl ?_
      refine k_iload_n hK ti_80_33 rfl ?_
      refine k_bipush hK ti_80_34 kB_12 ?_
      refine kn_ne hK (by omega) (by omega) ti_80_36 jt_36_9 (fun c_36 => ?_) (fun c_36 => ?_)
      · have e : fc_write s l (nI a) (nI w) = bad 2 1 s l := by simp only [fc_write, hx_a, hx_w, if_pos c_36]
        refine k_aload_n hK ti_80_39 rfl ?_
        refine k_iconst hK ti_80_40 kI_2 ?_
        refine k_callV hK (as := [.int _]) (st' := []) ti_80_41 ow_80 iv_4_40 mc_80 ms_80 rfl rfl (by omega) (Nat.le_of_ble_eq_true rfl) (Nat.le_of_ble_eq_true rfl) (Nat.le_of_ble_eq_true rfl) (Nat.le_of_ble_eq_true rfl) (by omega) rfl ?_
        refine sp_X4_fail (by omega) _ ?_
        refine k_ireturn hK ti_80_44 rk_80 mc_80 ms_80 (Nat.le_of_ble_eq_true rfl) (Nat.le_of_ble_eq_true rfl) ?_
        rw [e] at h
        exact h _ (RA.bad rfl hF hG hL)
      · have e : fc_write s l (nI a) (nI w) = ok (nI (g_len s a + 1)) (wrt s a w) l := by simp only [fc_write, hx_a, hx_w, if_neg c_36]
        refine k_aload_n hK ti_80_45 rfl ?_
        refine k_get hK ti_80_46 ow_80 fd_4_13 (by omega) rfl rfl ?_
        refine k_bipush hK ti_80_49 kB_14 ?_
        refine k_iload_n hK ti_80_51 rfl ?_
        refine k_imul hK (z := (nI (14 * a))) ti_80_52 (pk_mul _ _) ?_
        refine k_iconst hK ti_80_53 kI_2 ?_
        refine k_iadd hK (z := (nI (14 * a + 2))) ti_80_54 (nI_add _ _) ?_
        refine k_iload_n hK ti_80_55 rfl ?_
        refine k_iadd hK (z := (nI (14 * a + 2 + g_len s a))) ti_80_56 (nI_add _ _) ?_
        refine k_iload_n hK ti_80_57 rfl ?_
        refine k_iast hK (14 * a + 2 + g_len s a) ti_80_58 rfl (by omega) rfl (by rw [dpl_24]; omega) ?_
        refine k_aload_n hK ti_80_59 rfl ?_
        refine k_get hK ti_80_60 ow_80 fd_4_13 (by omega) rfl rfl ?_
        refine k_bipush hK ti_80_63 kB_14 ?_
        refine k_iload_n hK ti_80_65 rfl ?_
        refine k_imul hK (z := (nI (14 * a))) ti_80_66 (pk_mul _ _) ?_
        refine k_iconst hK ti_80_67 kI_0 ?_
        refine k_iadd hK (z := (nI (14 * a + 0))) ti_80_68 (nI_add _ _) ?_
        refine k_iload_n hK ti_80_69 rfl ?_
        refine k_iconst hK ti_80_70 kI_1 ?_
        refine k_iadd hK (z := (nI (g_len s a + 1))) ti_80_71 (nI_add _ _) ?_
        refine k_iast hK (14 * a + 0) ti_80_72 rfl (by omega) rfl (by rw [dpl_24]; omega) ?_
        refine k_iload_n hK ti_80_73 rfl ?_
        refine k_iconst hK ti_80_74 kI_1 ?_
        refine k_iadd hK (z := (nI (g_len s a + 1))) ti_80_75 (nI_add _ _) ?_
        refine k_ireturn hK ti_80_76 rk_80 mc_80 ms_80 (Nat.le_of_ble_eq_true rfl) (Nat.le_of_ble_eq_true rfl) ?_
        rw [e] at h
        exact h _ ⟨(Fr.up (Fr.up hF (Or.inl (by decide))) (Or.inl (by decide))), RG_wrt hG (by omega) (by omega) (by omega), (RLt_c2 (fun a9 _ => by (repeat (first | rw [dp_up_h (by decide)] | rw [dp_up_k (by omega)] | rw [dp_row_ne (by decide)]))) (fun c9 _ => ⟨by (repeat (first | rw [dp_up_h (by decide)] | rw [dp_up_k (by omega)] | rw [dp_row_ne (by decide)])), by (repeat (first | rw [dp_up_h (by decide)] | rw [dp_up_k (by omega)] | rw [dp_row_ne (by decide)])), by (repeat (first | rw [dp_up_h (by decide)] | rw [dp_up_k (by omega)] | rw [dp_row_ne (by decide)]))⟩) (by (repeat (first | rw [dp_up_h (by decide)] | rw [dp_up_k (by omega)] | rw [dp_row_ne (by decide)]))) hL), (by (repeat (first | rw [dp_up_h (by decide)] | rw [dp_up_k (by omega)] | rw [dp_row_ne (by decide)])); exact h0)⟩

set_option maxRecDepth 100000 in
set_option maxHeartbeats 4000000 in
theorem sp_X4_strike {X : dp_X} {d n : Nat} {M : dp_M} {o : Int64} {Q : dp_Q} (h65 : 65 ≤ n) {s : GSt} {l : LSt} (x y : Int32) (hG : RG M s) (hL : RLt M l) (h : ∀ M', RA M M' (fc_strike s l x y) → Q (.inl (some (.int (u_r (fc_strike s l x y))))) M' o) : dp_run X (d + 2 + 1) 81 [.ref 22, .int x, .int y] n M o Q := by
  apply k_run
  intro K hK
  rw [mL_81]
  show K 0 [some (.ref 22), some (.int x), some (.int y), none, none, none] [] n 0 0 M o
  have hA16 := hG.1.1
  have hC6 := hG.1.2.1
  refine k_aload_n hK ti_81_0 rfl ?_
  refine k_iconst hK ti_81_1 kI_0 ?_
  refine k_put hK ti_81_2 ow_81 fd_4_19 (by omega) rfl rfl ?_
  have hF : Fr wR M (dp_up M 22 0 (nI 0)) := Fr.up0 _ (Fr.refl _ _)
  replace hG := hG.up0 (nI 0)
  replace hL := hL.up0 (nI 0)
  have h0 : dp_up M 22 0 (nI 0) 22 0 = nI 0 := dp_up_s _ _ _ _
  generalize hM9 : dp_up M 22 0 (nI 0) = M9 at hF hG hL h0 ⊢
  clear hM9
  refine k_aload_n hK ti_81_5 rfl ?_
  refine k_iload_n hK ti_81_6 rfl ?_
  refine k_callV hK (as := [.int _]) (st' := []) ti_81_7 ow_81 iv_4_44 mc_81 ms_81 rfl rfl (by omega) (Nat.le_of_ble_eq_true rfl) (Nat.le_of_ble_eq_true rfl) (Nat.le_of_ble_eq_true rfl) (Nat.le_of_ble_eq_true rfl) (by omega) rfl ?_
  refine sp_X4_isArticle (by omega) _ hG ?_
  refine kb_eq hK ti_81_10 jt_10_19 (fun c_10 => ?_) (fun c_10 => ?_)
  · have e : fc_strike s l x y = bad 1 0 s l := by simp only [fc_strike, is_f c_10]
    refine k_aload_n hK ti_81_29 rfl ?_
    refine k_iconst hK ti_81_30 kI_1 ?_
    refine k_callV hK (as := [.int _]) (st' := []) ti_81_31 ow_81 iv_4_40 mc_81 ms_81 rfl rfl (by omega) (Nat.le_of_ble_eq_true rfl) (Nat.le_of_ble_eq_true rfl) (Nat.le_of_ble_eq_true rfl) (Nat.le_of_ble_eq_true rfl) (by omega) rfl ?_
    refine sp_X4_fail (by omega) _ ?_
    refine k_ireturn hK ti_81_34 rk_81 mc_81 ms_81 (Nat.le_of_ble_eq_true rfl) (Nat.le_of_ble_eq_true rfl) ?_
    rw [e] at h
    exact h _ (RA.bad rfl hF hG hL)
  · obtain ⟨a, hx_a⟩ := is_t c_10
    obtain ⟨hl_a, rfl⟩ := ix_some hx_a (by omega)
    have hlen := hG.1.2.2.2.1 a (by omega)
    refine k_iload_n hK ti_81_13 rfl ?_
    refine k_iconst hK ti_81_14 kI_0 ?_
    refine k_aload_n hK ti_81_15 rfl ?_
    refine k_iload_n hK ti_81_16 rfl ?_
    refine k_iconst hK ti_81_17 kI_0 ?_
    refine k_callV hK (as := [.int _, .int _]) (st' := [.int _, .int _]) ti_81_18 ow_81 iv_4_47 mc_81 ms_81 rfl rfl (by omega) (Nat.le_of_ble_eq_true rfl) (Nat.le_of_ble_eq_true rfl) (Nat.le_of_ble_eq_true rfl) (Nat.le_of_ble_eq_true rfl) (by omega) rfl ?_
    refine sp_X4_ar (by omega) a 0 (by omega) (by omega) (k_aftv ((nI (g_len s a))) (hG.2.2.2.2.1 a (by omega)) ?_)
    refine k_iconst hK ti_81_21 kI_1 ?_
    refine k_isub hK (z := (nI (g_len s a) - nI 1)) ti_81_22 rfl ?_
    refine k_callS hK (as := [.int _, .int _, .int _]) (st' := []) ti_81_23 ow_81 iv_4_26 mc_81 ms_81 rfl rfl (by omega) (Nat.le_of_ble_eq_true rfl) (Nat.le_of_ble_eq_true rfl) (Nat.le_of_ble_eq_true rfl) (Nat.le_of_ble_eq_true rfl) ?_
    refine sp_X4_isIn (by omega) _ _ _ (k_aftv (bl ((ix (g_len s a) y).isSome)) (congrArg bl (isin_ix (by omega))) ?_)
    refine kb_ne hK ti_81_26 jt_26_9 (fun c_26 => ?_) (fun c_26 => ?_)
    · have e : fc_strike s l (nI a) y = bad 1 0 s l := by simp only [fc_strike, hx_a, is_f c_26]
      refine k_aload_n hK ti_81_29 rfl ?_
      refine k_iconst hK ti_81_30 kI_1 ?_
      refine k_callV hK (as := [.int _]) (st' := []) ti_81_31 ow_81 iv_4_40 mc_81 ms_81 rfl rfl (by omega) (Nat.le_of_ble_eq_true rfl) (Nat.le_of_ble_eq_true rfl) (Nat.le_of_ble_eq_true rfl) (Nat.le_of_ble_eq_true rfl) (by omega) rfl ?_
      refine sp_X4_fail (by omega) _ ?_
      refine k_ireturn hK ti_81_34 rk_81 mc_81 ms_81 (Nat.le_of_ble_eq_true rfl) (Nat.le_of_ble_eq_true rfl) ?_
      rw [e] at h
      exact h _ (RA.bad rfl hF hG hL)
    · obtain ⟨p, hx_p⟩ := is_t c_26
      obtain ⟨hl_p, rfl⟩ := ix_some hx_p (by omega)
      have e : fc_strike s l (nI a) (nI p) = ok (nI (g_wd s a p)) (stk s a p) l := by simp only [fc_strike, hx_a, hx_p]
      refine k_aload_n hK ti_81_35 rfl ?_
      refine k_iload_n hK ti_81_36 rfl ?_
      refine k_iconst hK ti_81_37 kI_2 ?_
      refine k_iload_n hK ti_81_38 rfl ?_
      refine k_iadd hK (z := (nI (2 + p))) ti_81_39 (nI_add _ _) ?_
      refine k_callV hK (as := [.int _, .int _]) (st' := []) ti_81_40 ow_81 iv_4_47 mc_81 ms_81 rfl rfl (by omega) (Nat.le_of_ble_eq_true rfl) (Nat.le_of_ble_eq_true rfl) (Nat.le_of_ble_eq_true rfl) (Nat.le_of_ble_eq_true rfl) (by omega) rfl ?_
      refine sp_X4_ar (by omega) a (2 + p) (by omega) (by omega) (k_aftv ((nI (g_wd s a p))) (hG.2.2.2.2.2.1 a p (by omega) (by omega)) ?_)
      refine k_istore_n hK (L' := [some (.ref 22), some (.int _), some (.int _), some (.int _), none, none]) ti_81_43 rfl ?_
      refine k_aload_n hK ti_81_44 rfl ?_
      refine k_iload_n hK ti_81_45 rfl ?_
      refine k_iconst hK ti_81_46 kI_0 ?_
      refine k_callV hK (as := [.int _, .int _]) (st' := []) ti_81_47 ow_81 iv_4_47 mc_81 ms_81 rfl rfl (by omega) (Nat.le_of_ble_eq_true rfl) (Nat.le_of_ble_eq_true rfl) (Nat.le_of_ble_eq_true rfl) (Nat.le_of_ble_eq_true rfl) (by omega) rfl ?_
      refine sp_X4_ar (by omega) a 0 (by omega) (by omega) (k_aftv ((nI (g_len s a))) (hG.2.2.2.2.1 a (by omega)) ?_)
      refine k_iconst hK ti_81_50 kI_1 ?_
      refine k_isub hK (z := (nI (g_len s a - 1))) ti_81_51 (pk_sub (by omega)) ?_
      refine k_istore hK (L' := [some (.ref 22), some (.int _), some (.int _), some (.int _), some (.int _), none]) ti_81_52 rfl ?_
      refine k_bipush hK ti_81_54 kB_14 ?_
      refine k_iload_n hK ti_81_56 rfl ?_
      refine k_imul hK (z := (nI (14 * a))) ti_81_57 (pk_mul _ _) ?_
      refine k_iconst hK ti_81_58 kI_2 ?_
      refine k_iadd hK (z := (nI (14 * a + 2))) ti_81_59 (nI_add _ _) ?_
      refine k_iload_n hK ti_81_60 rfl ?_
      refine k_iadd hK (z := (nI (14 * a + 2 + p))) ti_81_61 (nI_add _ _) ?_
      refine k_istore hK (L' := [some (.ref 22), some (.int _), some (.int _), some (.int _), some (.int _), some (.int _)]) ti_81_62 rfl ?_
      refine k_aload_n hK ti_81_64 rfl ?_
      refine k_get hK ti_81_65 ow_81 fd_4_13 (by omega) rfl rfl ?_
      refine k_iload hK ti_81_68 rfl ?_
      refine k_iconst hK ti_81_70 kI_1 ?_
      refine k_iadd hK (z := (nI (14 * a + 2 + p + 1))) ti_81_71 (nI_add _ _) ?_
      refine k_aload_n hK ti_81_72 rfl ?_
      refine k_get hK ti_81_73 ow_81 fd_4_13 (by omega) rfl rfl ?_
      refine k_iload hK ti_81_76 rfl ?_
      refine k_iload hK ti_81_78 rfl ?_
      refine k_iload_n hK ti_81_80 rfl ?_
      refine k_isub hK (z := (nI ((g_len s a - 1) - p))) ti_81_81 (pk_sub (by omega)) ?_
      refine k_copy hK (14 * a + 2 + p + 1) (14 * a + 2 + p) ((g_len s a - 1) - p) ti_81_82 ow_81 nt_4_51 (Nat.le_of_ble_eq_true rfl) rfl rfl (by omega) (by omega) rfl rfl rfl (by rw [dpl_24]; omega) (by rw [dpl_24]; omega) ?_
      refine k_aload_n hK ti_81_85 rfl ?_
      refine k_get hK ti_81_86 ow_81 fd_4_13 (by omega) rfl rfl ?_
      refine k_bipush hK ti_81_89 kB_14 ?_
      refine k_iload_n hK ti_81_91 rfl ?_
      refine k_imul hK (z := (nI (14 * a))) ti_81_92 (pk_mul _ _) ?_
      refine k_iconst hK ti_81_93 kI_0 ?_
      refine k_iadd hK (z := (nI (14 * a + 0))) ti_81_94 (nI_add _ _) ?_
      refine k_iload hK ti_81_95 rfl ?_
      refine k_iast hK (14 * a + 0) ti_81_97 rfl (by omega) rfl (by rw [dpl_24]; omega) ?_
      refine k_iload_n hK ti_81_98 rfl ?_
      refine k_ireturn hK ti_81_99 rk_81 mc_81 ms_81 (Nat.le_of_ble_eq_true rfl) (Nat.le_of_ble_eq_true rfl) ?_
      rw [e] at h
      exact h _ ⟨(Fr.up (Fr.row hF (Or.inl (by decide))) (Or.inl (by decide))), RG_stk hG (by omega) (by omega), (RLt_stk hL (by omega) (by omega) (by omega)), (by (repeat (first | rw [dp_up_h (by decide)] | rw [dp_up_k (by omega)] | rw [dp_row_ne (by decide)])); exact h0)⟩

set_option maxRecDepth 100000 in
set_option maxHeartbeats 4000000 in
theorem sp_X4_client {X : dp_X} {d n : Nat} {M : dp_M} {o : Int64} {Q : dp_Q} (h65 : 65 ≤ n) {s : GSt} {l : LSt} (x : Int32) (hG : RG M s) (hL : RLt M l) (h : ∀ M', RA M M' (fc_client s l x) → Q (.inl (some (.int (u_r (fc_client s l x))))) M' o) : dp_run X (d + 1 + 1) 82 [.ref 22, .int x] n M o Q := by
  apply k_run
  intro K hK
  rw [mL_82]
  show K 0 [some (.ref 22), some (.int x)] [] n 0 0 M o
  have hA16 := hG.1.1
  have hC6 := hG.1.2.1
  refine k_aload_n hK ti_82_0 rfl ?_
  refine k_iconst hK ti_82_1 kI_0 ?_
  refine k_put hK ti_82_2 ow_82 fd_4_19 (by omega) rfl rfl ?_
  have hF : Fr wR M (dp_up M 22 0 (nI 0)) := Fr.up0 _ (Fr.refl _ _)
  replace hG := hG.up0 (nI 0)
  replace hL := hL.up0 (nI 0)
  have h0 : dp_up M 22 0 (nI 0) 22 0 = nI 0 := dp_up_s _ _ _ _
  generalize hM9 : dp_up M 22 0 (nI 0) = M9 at hF hG hL h0 ⊢
  clear hM9
  refine k_iload_n hK ti_82_5 rfl ?_
  refine k_iconst hK ti_82_6 kI_0 ?_
  refine k_sipush hK ti_82_7 kS_999 ?_
  refine k_callS hK (as := [.int _, .int _, .int _]) (st' := []) ti_82_10 ow_82 iv_4_26 mc_82 ms_82 rfl rfl (by omega) (Nat.le_of_ble_eq_true rfl) (Nat.le_of_ble_eq_true rfl) (Nat.le_of_ble_eq_true rfl) (Nat.le_of_ble_eq_true rfl) ?_
  refine sp_X4_isIn (by omega) _ _ _ ?_
  refine kb_ne hK ti_82_13 jt_13_9 (fun c_13 => ?_) (fun c_13 => ?_)
  · have e : fc_client s l x = bad 1 2 s l := by unfold fc_client; simp only [c_13]; rfl
    refine k_aload_n hK ti_82_16 rfl ?_
    refine k_iconst hK ti_82_17 kI_1 ?_
    refine k_callV hK (as := [.int _]) (st' := []) ti_82_18 ow_82 iv_4_40 mc_82 ms_82 rfl rfl (by omega) (Nat.le_of_ble_eq_true rfl) (Nat.le_of_ble_eq_true rfl) (Nat.le_of_ble_eq_true rfl) (Nat.le_of_ble_eq_true rfl) (by omega) rfl ?_
    refine sp_X4_fail (by omega) _ ?_
    refine k_ireturn hK ti_82_21 rk_82 mc_82 ms_82 (Nat.le_of_ble_eq_true rfl) (Nat.le_of_ble_eq_true rfl) ?_
    rw [e] at h
    exact h _ (RA.bad rfl hF hG hL)
  · refine k_aload_n hK ti_82_22 rfl ?_
    refine k_geti hK (nI (g_nC s)) ti_82_23 ow_82 fd_4_30 (by omega) rfl rfl hG.2.2.1 ?_
    refine k_bipush hK ti_82_26 kB_6 ?_
    refine kn_ne hK (by omega) (by omega) ti_82_28 jt_28_9 (fun c_28 => ?_) (fun c_28 => ?_)
    · have e : fc_client s l x = bad 2 1 s l := by unfold fc_client; rw [if_pos c_13, if_pos c_28]
      refine k_aload_n hK ti_82_31 rfl ?_
      refine k_iconst hK ti_82_32 kI_2 ?_
      refine k_callV hK (as := [.int _]) (st' := []) ti_82_33 ow_82 iv_4_40 mc_82 ms_82 rfl rfl (by omega) (Nat.le_of_ble_eq_true rfl) (Nat.le_of_ble_eq_true rfl) (Nat.le_of_ble_eq_true rfl) (Nat.le_of_ble_eq_true rfl) (by omega) rfl ?_
      refine sp_X4_fail (by omega) _ ?_
      refine k_ireturn hK ti_82_36 rk_82 mc_82 ms_82 (Nat.le_of_ble_eq_true rfl) (Nat.le_of_ble_eq_true rfl) ?_
      rw [e] at h
      exact h _ (RA.bad rfl hF hG hL)
    · have e : fc_client s l x = ok (nI (g_nC s)) (cli s) (setC l (g_nC s) x) := by unfold fc_client; rw [if_pos c_13, if_neg c_28]
      refine k_aload_n hK ti_82_37 rfl ?_
      refine k_aload_n hK ti_82_38 rfl ?_
      refine k_geti hK (nI (g_nC s)) ti_82_39 ow_82 fd_4_30 (by omega) rfl rfl hG.2.2.1 ?_
      refine k_iconst hK ti_82_42 kI_0 ?_
      refine k_iload_n hK ti_82_43 rfl ?_
      refine k_callV hK (as := [.int _, .int _, .int _]) (st' := []) ti_82_44 ow_82 iv_4_57 mc_82 ms_82 rfl rfl (by omega) (Nat.le_of_ble_eq_true rfl) (Nat.le_of_ble_eq_true rfl) (Nat.le_of_ble_eq_true rfl) (Nat.le_of_ble_eq_true rfl) (by omega) rfl ?_
      refine sp_X4_put (by omega) (g_nC s) 0 _ (by omega) (by omega) ?_
      refine k_aload_n hK ti_82_47 rfl ?_
      refine k_aload_n hK ti_82_48 rfl ?_
      refine k_geti hK (nI (g_nC s)) ti_82_49 ow_82 fd_4_30 (by omega) rfl rfl ((dp_up_h (by decide)).trans hG.2.2.1) ?_
      refine k_iconst hK ti_82_52 kI_2 ?_
      refine k_bipush hK ti_82_53 kB_20 ?_
      refine k_callV hK (as := [.int _, .int _, .int _]) (st' := []) ti_82_55 ow_82 iv_4_57 mc_82 ms_82 rfl rfl (by omega) (Nat.le_of_ble_eq_true rfl) (Nat.le_of_ble_eq_true rfl) (Nat.le_of_ble_eq_true rfl) (Nat.le_of_ble_eq_true rfl) (by omega) rfl ?_
      refine sp_X4_put (by omega) (g_nC s) 2 _ (by omega) (by omega) ?_
      refine k_aload_n hK ti_82_58 rfl ?_
      refine k_dup hK ti_82_59 rfl ?_
      refine k_geti hK (nI (g_nC s)) ti_82_60 ow_82 fd_4_30 (by omega) rfl rfl ((dp_up_h (by decide)).trans ((dp_up_h (by decide)).trans hG.2.2.1)) ?_
      refine k_iconst hK ti_82_63 kI_1 ?_
      refine k_iadd hK (z := (nI (g_nC s + 1))) ti_82_64 (nI_add _ _) ?_
      refine k_put hK ti_82_65 ow_82 fd_4_30 (by omega) rfl rfl ?_
      refine k_aload_n hK ti_82_68 rfl ?_
      refine k_geti hK (nI (g_nC s + 1)) ti_82_69 ow_82 fd_4_30 (by omega) rfl rfl (dp_up_s _ _ _ _) ?_
      refine k_iconst hK ti_82_72 kI_1 ?_
      refine k_isub hK (z := (nI (g_nC s))) ti_82_73 (pk_sub (by omega)) ?_
      refine k_ireturn hK ti_82_74 rk_82 mc_82 ms_82 (Nat.le_of_ble_eq_true rfl) (Nat.le_of_ble_eq_true rfl) ?_
      rw [e] at h
      exact h _ ⟨(Fr.up (Fr.up (Fr.up hF (Or.inl (by decide))) (Or.inl (by decide))) (Or.inl (by decide))), RG_cli hG (by omega), (RLt_c2 (fun a9 _ => by (repeat (first | rw [dp_up_h (by decide)] | rw [dp_up_k (by omega)] | rw [dp_row_ne (by decide)]))) (fun c9 _ => ⟨by (repeat (first | rw [dp_up_h (by decide)] | rw [dp_up_k (by omega)] | rw [dp_row_ne (by decide)])), by (repeat (first | rw [dp_up_h (by decide)] | rw [dp_up_k (by omega)] | rw [dp_row_ne (by decide)])), by (repeat (first | rw [dp_up_h (by decide)] | rw [dp_up_k (by omega)] | rw [dp_row_ne (by decide)]))⟩) (by (repeat (first | rw [dp_up_h (by decide)] | rw [dp_up_k (by omega)] | rw [dp_row_ne (by decide)]))) (RLt_setC hL)), (by (repeat (first | rw [dp_up_h (by decide)] | rw [dp_up_k (by omega)] | rw [dp_row_ne (by decide)])); exact h0)⟩

set_option maxRecDepth 100000 in
set_option maxHeartbeats 4000000 in
theorem sp_X4_want {X : dp_X} {d n : Nat} {M : dp_M} {o : Int64} {Q : dp_Q} (h65 : 65 ≤ n) {s : GSt} {l : LSt} (x y : Int32) (hG : RG M s) (hL : RLt M l) (h : ∀ M', RA M M' (fc_want s l x y) → Q (.inl (some (.int (u_r (fc_want s l x y))))) M' o) : dp_run X (d + 2 + 1) 84 [.ref 22, .int x, .int y] n M o Q := by
  apply k_run
  intro K hK
  rw [mL_84]
  show K 0 [some (.ref 22), some (.int x), some (.int y), none] [] n 0 0 M o
  have hA16 := hG.1.1
  have hC6 := hG.1.2.1
  refine k_aload_n hK ti_84_0 rfl ?_
  refine k_iconst hK ti_84_1 kI_0 ?_
  refine k_put hK ti_84_2 ow_84 fd_4_19 (by omega) rfl rfl ?_
  have hF : Fr wR M (dp_up M 22 0 (nI 0)) := Fr.up0 _ (Fr.refl _ _)
  replace hG := hG.up0 (nI 0)
  replace hL := hL.up0 (nI 0)
  have h0 : dp_up M 22 0 (nI 0) 22 0 = nI 0 := dp_up_s _ _ _ _
  generalize hM9 : dp_up M 22 0 (nI 0) = M9 at hF hG hL h0 ⊢
  clear hM9
  refine k_aload_n hK ti_84_5 rfl ?_
  refine k_iload_n hK ti_84_6 rfl ?_
  refine k_callV hK (as := [.int _]) (st' := []) ti_84_7 ow_84 iv_4_64 mc_84 ms_84 rfl rfl (by omega) (Nat.le_of_ble_eq_true rfl) (Nat.le_of_ble_eq_true rfl) (Nat.le_of_ble_eq_true rfl) (Nat.le_of_ble_eq_true rfl) (by omega) rfl ?_
  refine sp_X4_isClient (by omega) _ hG ?_
  refine kb_eq hK ti_84_10 jt_10_10 (fun c_10 => ?_) (fun c_10 => ?_)
  · have e : fc_want s l x y = bad 1 0 s l := by simp only [fc_want, is_f c_10]
    refine k_aload_n hK ti_84_20 rfl ?_
    refine k_iconst hK ti_84_21 kI_1 ?_
    refine k_callV hK (as := [.int _]) (st' := []) ti_84_22 ow_84 iv_4_40 mc_84 ms_84 rfl rfl (by omega) (Nat.le_of_ble_eq_true rfl) (Nat.le_of_ble_eq_true rfl) (Nat.le_of_ble_eq_true rfl) (Nat.le_of_ble_eq_true rfl) (by omega) rfl ?_
    refine sp_X4_fail (by omega) _ ?_
    refine k_ireturn hK ti_84_25 rk_84 mc_84 ms_84 (Nat.le_of_ble_eq_true rfl) (Nat.le_of_ble_eq_true rfl) ?_
    rw [e] at h
    exact h _ (RA.bad rfl hF hG hL)
  · obtain ⟨c, hx_c⟩ := is_t c_10
    obtain ⟨hl_c, rfl⟩ := ix_some hx_c (by omega)
    refine k_iload_n hK ti_84_13 rfl ?_
    refine k_callS hK (as := [.int _]) (st' := []) ti_84_14 ow_84 iv_4_37 mc_84 ms_84 rfl rfl (by omega) (Nat.le_of_ble_eq_true rfl) (Nat.le_of_ble_eq_true rfl) (Nat.le_of_ble_eq_true rfl) (Nat.le_of_ble_eq_true rfl) ?_
    refine sp_X4_isStem (by omega) _ ?_
    refine kb_ne hK ti_84_17 jt_17_9 (fun c_17 => ?_) (fun c_17 => ?_)
    · have e : fc_want s l (nI c) y = bad 1 0 s l := by simp only [fc_want, hx_c, is_f c_17]
      refine k_aload_n hK ti_84_20 rfl ?_
      refine k_iconst hK ti_84_21 kI_1 ?_
      refine k_callV hK (as := [.int _]) (st' := []) ti_84_22 ow_84 iv_4_40 mc_84 ms_84 rfl rfl (by omega) (Nat.le_of_ble_eq_true rfl) (Nat.le_of_ble_eq_true rfl) (Nat.le_of_ble_eq_true rfl) (Nat.le_of_ble_eq_true rfl) (by omega) rfl ?_
      refine sp_X4_fail (by omega) _ ?_
      refine k_ireturn hK ti_84_25 rk_84 mc_84 ms_84 (Nat.le_of_ble_eq_true rfl) (Nat.le_of_ble_eq_true rfl) ?_
      rw [e] at h
      exact h _ (RA.bad rfl hF hG hL)
    · obtain ⟨w, hx_w⟩ := is_t c_17
      obtain ⟨hl_w, rfl⟩ := ix_some hx_w (by omega)
      have hm5 := hG.1.2.2.2.2.2.1 c (by omega)
      refine k_aload_n hK ti_84_26 rfl ?_
      refine k_iload_n hK ti_84_27 rfl ?_
      refine k_iconst hK ti_84_28 kI_1 ?_
      refine k_callV hK (as := [.int _, .int _]) (st' := []) ti_84_29 ow_84 iv_4_61 mc_84 ms_84 rfl rfl (by omega) (Nat.le_of_ble_eq_true rfl) (Nat.le_of_ble_eq_true rfl) (Nat.le_of_ble_eq_true rfl) (Nat.le_of_ble_eq_true rfl) (by omega) rfl ?_
      refine sp_X4_cl (by omega) c 1 (by omega) (by omega) (k_aftv ((nI (g_many s c))) (hG.2.2.2.2.2.2.1 c (by omega)) ?_)
      refine k_istore_n hK (L' := [some (.ref 22), some (.int _), some (.int _), some (.int _)]) ti_84_32 rfl ?_
      refine k_iload_n hK ti_84_33 rfl ?_
      refine k_iconst hK ti_84_34 kI_5 ?_
      refine kn_eq hK (by omega) (by omega) ti_84_35 jt_35_13 (fun c_35 => ?_) (fun c_35 => ?_)
      · have e : fc_want s l (nI c) (nI w) = bad 2 1 s l := by simp only [fc_want, hx_c, hx_w, if_pos c_35]
        refine k_aload_n hK ti_84_48 rfl ?_
        refine k_iconst hK ti_84_49 kI_2 ?_
        refine k_callV hK (as := [.int _]) (st' := []) ti_84_50 ow_84 iv_4_40 mc_84 ms_84 rfl rfl (by omega) (Nat.le_of_ble_eq_true rfl) (Nat.le_of_ble_eq_true rfl) (Nat.le_of_ble_eq_true rfl) (Nat.le_of_ble_eq_true rfl) (by omega) rfl ?_
        refine sp_X4_fail (by omega) _ ?_
        refine k_ireturn hK ti_84_53 rk_84 mc_84 ms_84 (Nat.le_of_ble_eq_true rfl) (Nat.le_of_ble_eq_true rfl) ?_
        rw [e] at h
        exact h _ (RA.bad rfl hF hG hL)
      · refine k_aload_n hK ti_84_38 rfl ?_
        refine k_iload_n hK ti_84_39 rfl ?_
        refine k_iload_n hK ti_84_40 rfl ?_
        refine k_callV hK (as := [.int _, .int _]) (st' := []) ti_84_41 ow_84 iv_4_67 mc_84 ms_84 rfl rfl (by omega) (Nat.le_of_ble_eq_true rfl) (Nat.le_of_ble_eq_true rfl) (Nat.le_of_ble_eq_true rfl) (Nat.le_of_ble_eq_true rfl) (by omega) rfl ?_
        refine sp_X4_wish (by omega) c w hG (by omega) (by omega) ?_
        rcases hwi : wsh s c w with _ | p
        · have e : fc_want s l (nI c) (nI w) = ok (nI (g_many s c + 1)) (adds s c w) l := by simp only [fc_want, hx_c, hx_w, if_neg c_35, hwi]
          refine k_iconst hK ti_84_44 kI_m1 ?_
          refine k_icmp_eq hK ti_84_45 jt_45_9 (fun c_45 => ?_) (fun c_45 => ?_)
          · refine k_aload_n hK ti_84_54 rfl ?_
            refine k_iload_n hK ti_84_55 rfl ?_
            refine k_iconst hK ti_84_56 kI_5 ?_
            refine k_iload_n hK ti_84_57 rfl ?_
            refine k_iadd hK (z := (nI (5 + g_many s c))) ti_84_58 (nI_add _ _) ?_
            refine k_iload_n hK ti_84_59 rfl ?_
            refine k_callV hK (as := [.int _, .int _, .int _]) (st' := []) ti_84_60 ow_84 iv_4_57 mc_84 ms_84 rfl rfl (by omega) (Nat.le_of_ble_eq_true rfl) (Nat.le_of_ble_eq_true rfl) (Nat.le_of_ble_eq_true rfl) (Nat.le_of_ble_eq_true rfl) (by omega) rfl ?_
            refine sp_X4_put (by omega) c (5 + g_many s c) _ (by omega) (by omega) ?_
            refine k_aload_n hK ti_84_63 rfl ?_
            refine k_iload_n hK ti_84_64 rfl ?_
            refine k_iconst hK ti_84_65 kI_1 ?_
            refine k_iload_n hK ti_84_66 rfl ?_
            refine k_iconst hK ti_84_67 kI_1 ?_
            refine k_iadd hK (z := (nI (g_many s c + 1))) ti_84_68 (nI_add _ _) ?_
            refine k_callV hK (as := [.int _, .int _, .int _]) (st' := []) ti_84_69 ow_84 iv_4_57 mc_84 ms_84 rfl rfl (by omega) (Nat.le_of_ble_eq_true rfl) (Nat.le_of_ble_eq_true rfl) (Nat.le_of_ble_eq_true rfl) (Nat.le_of_ble_eq_true rfl) (by omega) rfl ?_
            refine sp_X4_put (by omega) c 1 _ (by omega) (by omega) ?_
            refine k_iload_n hK ti_84_72 rfl ?_
            refine k_iconst hK ti_84_73 kI_1 ?_
            refine k_iadd hK (z := (nI (g_many s c + 1))) ti_84_74 (nI_add _ _) ?_
            refine k_ireturn hK ti_84_75 rk_84 mc_84 ms_84 (Nat.le_of_ble_eq_true rfl) (Nat.le_of_ble_eq_true rfl) ?_
            rw [e] at h
            exact h _ ⟨(Fr.up (Fr.up hF (Or.inl (by decide))) (Or.inl (by decide))), RG_adds hG (by omega) (by omega) (by omega), (RLt_adds hL (by omega) (by omega)), (by (repeat (first | rw [dp_up_h (by decide)] | rw [dp_up_k (by omega)] | rw [dp_row_ne (by decide)])); exact h0)⟩
          · exact absurd rfl c_45
        · have hp := (frst_some hwi).1
          have e : fc_want s l (nI c) (nI w) = bad 2 1 s l := by simp only [fc_want, hx_c, hx_w, if_neg c_35, hwi]
          refine k_iconst hK ti_84_44 kI_m1 ?_
          refine k_icmp_eq hK ti_84_45 jt_45_9 (fun c_45 => ?_) (fun c_45 => ?_)
          · exact absurd c_45 (nI_nm1 (by omega))
          · refine k_aload_n hK ti_84_48 rfl ?_
            refine k_iconst hK ti_84_49 kI_2 ?_
            refine k_callV hK (as := [.int _]) (st' := []) ti_84_50 ow_84 iv_4_40 mc_84 ms_84 rfl rfl (by omega) (Nat.le_of_ble_eq_true rfl) (Nat.le_of_ble_eq_true rfl) (Nat.le_of_ble_eq_true rfl) (Nat.le_of_ble_eq_true rfl) (by omega) rfl ?_
            refine sp_X4_fail (by omega) _ ?_
            refine k_ireturn hK ti_84_53 rk_84 mc_84 ms_84 (Nat.le_of_ble_eq_true rfl) (Nat.le_of_ble_eq_true rfl) ?_
            rw [e] at h
            exact h _ (RA.bad rfl hF hG hL)

set_option maxRecDepth 100000 in
set_option maxHeartbeats 4000000 in
theorem sp_X4_drop {X : dp_X} {d n : Nat} {M : dp_M} {o : Int64} {Q : dp_Q} (h65 : 65 ≤ n) {s : GSt} {l : LSt} (x y : Int32) (hG : RG M s) (hL : RLt M l) (h : ∀ M', RA M M' (fc_drop s l x y) → Q (.inl (some (.int (u_r (fc_drop s l x y))))) M' o) : dp_run X (d + 2 + 1) 85 [.ref 22, .int x, .int y] n M o Q := by
  apply k_run
  intro K hK
  rw [mL_85]
  show K 0 [some (.ref 22), some (.int x), some (.int y), none, none, none] [] n 0 0 M o
  have hA16 := hG.1.1
  have hC6 := hG.1.2.1
  refine k_aload_n hK ti_85_0 rfl ?_
  refine k_iconst hK ti_85_1 kI_0 ?_
  refine k_put hK ti_85_2 ow_85 fd_4_19 (by omega) rfl rfl ?_
  have hF : Fr wR M (dp_up M 22 0 (nI 0)) := Fr.up0 _ (Fr.refl _ _)
  replace hG := hG.up0 (nI 0)
  replace hL := hL.up0 (nI 0)
  have h0 : dp_up M 22 0 (nI 0) 22 0 = nI 0 := dp_up_s _ _ _ _
  generalize hM9 : dp_up M 22 0 (nI 0) = M9 at hF hG hL h0 ⊢
  clear hM9
  refine k_aload_n hK ti_85_5 rfl ?_
  refine k_iload_n hK ti_85_6 rfl ?_
  refine k_callV hK (as := [.int _]) (st' := []) ti_85_7 ow_85 iv_4_64 mc_85 ms_85 rfl rfl (by omega) (Nat.le_of_ble_eq_true rfl) (Nat.le_of_ble_eq_true rfl) (Nat.le_of_ble_eq_true rfl) (Nat.le_of_ble_eq_true rfl) (by omega) rfl ?_
  refine sp_X4_isClient (by omega) _ hG ?_
  refine kb_eq hK ti_85_10 jt_10_10 (fun c_10 => ?_) (fun c_10 => ?_)
  · have e : fc_drop s l x y = bad 1 0 s l := by simp only [fc_drop, is_f c_10]
    refine k_aload_n hK ti_85_20 rfl ?_
    refine k_iconst hK ti_85_21 kI_1 ?_
    refine k_callV hK (as := [.int _]) (st' := []) ti_85_22 ow_85 iv_4_40 mc_85 ms_85 rfl rfl (by omega) (Nat.le_of_ble_eq_true rfl) (Nat.le_of_ble_eq_true rfl) (Nat.le_of_ble_eq_true rfl) (Nat.le_of_ble_eq_true rfl) (by omega) rfl ?_
    refine sp_X4_fail (by omega) _ ?_
    refine k_ireturn hK ti_85_25 rk_85 mc_85 ms_85 (Nat.le_of_ble_eq_true rfl) (Nat.le_of_ble_eq_true rfl) ?_
    rw [e] at h
    exact h _ (RA.bad rfl hF hG hL)
  · obtain ⟨c, hx_c⟩ := is_t c_10
    obtain ⟨hl_c, rfl⟩ := ix_some hx_c (by omega)
    refine k_iload_n hK ti_85_13 rfl ?_
    refine k_callS hK (as := [.int _]) (st' := []) ti_85_14 ow_85 iv_4_37 mc_85 ms_85 rfl rfl (by omega) (Nat.le_of_ble_eq_true rfl) (Nat.le_of_ble_eq_true rfl) (Nat.le_of_ble_eq_true rfl) (Nat.le_of_ble_eq_true rfl) ?_
    refine sp_X4_isStem (by omega) _ ?_
    refine kb_ne hK ti_85_17 jt_17_9 (fun c_17 => ?_) (fun c_17 => ?_)
    · have e : fc_drop s l (nI c) y = bad 1 0 s l := by simp only [fc_drop, hx_c, is_f c_17]
      refine k_aload_n hK ti_85_20 rfl ?_
      refine k_iconst hK ti_85_21 kI_1 ?_
      refine k_callV hK (as := [.int _]) (st' := []) ti_85_22 ow_85 iv_4_40 mc_85 ms_85 rfl rfl (by omega) (Nat.le_of_ble_eq_true rfl) (Nat.le_of_ble_eq_true rfl) (Nat.le_of_ble_eq_true rfl) (Nat.le_of_ble_eq_true rfl) (by omega) rfl ?_
      refine sp_X4_fail (by omega) _ ?_
      refine k_ireturn hK ti_85_25 rk_85 mc_85 ms_85 (Nat.le_of_ble_eq_true rfl) (Nat.le_of_ble_eq_true rfl) ?_
      rw [e] at h
      exact h _ (RA.bad rfl hF hG hL)
    · obtain ⟨w, hx_w⟩ := is_t c_17
      obtain ⟨hl_w, rfl⟩ := ix_some hx_w (by omega)
      have hm5 := hG.1.2.2.2.2.2.1 c (by omega)
      refine k_aload_n hK ti_85_26 rfl ?_
      refine k_iload_n hK ti_85_27 rfl ?_
      refine k_iload_n hK ti_85_28 rfl ?_
      refine k_callV hK (as := [.int _, .int _]) (st' := []) ti_85_29 ow_85 iv_4_67 mc_85 ms_85 rfl rfl (by omega) (Nat.le_of_ble_eq_true rfl) (Nat.le_of_ble_eq_true rfl) (Nat.le_of_ble_eq_true rfl) (Nat.le_of_ble_eq_true rfl) (by omega) rfl ?_
      refine sp_X4_wish (by omega) c w hG (by omega) (by omega) ?_
      rcases hwi : wsh s c w with _ | p
      · have e : fc_drop s l (nI c) (nI w) = bad 2 1 s l := by simp only [fc_drop, hx_c, hx_w, hwi]
        refine k_istore_n hK (L' := [some (.ref 22), some (.int _), some (.int _), some (.int _), none, none]) ti_85_32 rfl ?_
        refine k_iload_n hK ti_85_33 rfl ?_
        refine k_iconst hK ti_85_34 kI_m1 ?_
        refine k_icmp_ne hK ti_85_35 jt_35_9 (fun c_35 => ?_) (fun c_35 => ?_)
        · refine k_aload_n hK ti_85_38 rfl ?_
          refine k_iconst hK ti_85_39 kI_2 ?_
          refine k_callV hK (as := [.int _]) (st' := []) ti_85_40 ow_85 iv_4_40 mc_85 ms_85 rfl rfl (by omega) (Nat.le_of_ble_eq_true rfl) (Nat.le_of_ble_eq_true rfl) (Nat.le_of_ble_eq_true rfl) (Nat.le_of_ble_eq_true rfl) (by omega) rfl ?_
          refine sp_X4_fail (by omega) _ ?_
          refine k_ireturn hK ti_85_43 rk_85 mc_85 ms_85 (Nat.le_of_ble_eq_true rfl) (Nat.le_of_ble_eq_true rfl) ?_
          rw [e] at h
          exact h _ (RA.bad rfl hF hG hL)
        · exact absurd rfl c_35
      · have hp := (frst_some hwi).1
        have e : fc_drop s l (nI c) (nI w) = ok (nI p) (drp s c p) l := by simp only [fc_drop, hx_c, hx_w, hwi]
        refine k_istore_n hK (L' := [some (.ref 22), some (.int _), some (.int _), some (.int _), none, none]) ti_85_32 rfl ?_
        refine k_iload_n hK ti_85_33 rfl ?_
        refine k_iconst hK ti_85_34 kI_m1 ?_
        refine k_icmp_ne hK ti_85_35 jt_35_9 (fun c_35 => ?_) (fun c_35 => ?_)
        · exact absurd c_35 (nI_nm1 (by omega))
        · refine k_aload_n hK ti_85_44 rfl ?_
          refine k_iload_n hK ti_85_45 rfl ?_
          refine k_iconst hK ti_85_46 kI_1 ?_
          refine k_callV hK (as := [.int _, .int _]) (st' := []) ti_85_47 ow_85 iv_4_61 mc_85 ms_85 rfl rfl (by omega) (Nat.le_of_ble_eq_true rfl) (Nat.le_of_ble_eq_true rfl) (Nat.le_of_ble_eq_true rfl) (Nat.le_of_ble_eq_true rfl) (by omega) rfl ?_
          refine sp_X4_cl (by omega) c 1 (by omega) (by omega) (k_aftv ((nI (g_many s c))) (hG.2.2.2.2.2.2.1 c (by omega)) ?_)
          refine k_iconst hK ti_85_50 kI_1 ?_
          refine k_isub hK (z := (nI (g_many s c - 1))) ti_85_51 (pk_sub (by omega)) ?_
          refine k_istore hK (L' := [some (.ref 22), some (.int _), some (.int _), some (.int _), some (.int _), none]) ti_85_52 rfl ?_
          refine k_bipush hK ti_85_54 kB_10 ?_
          refine k_iload_n hK ti_85_56 rfl ?_
          refine k_imul hK (z := (nI (10 * c))) ti_85_57 (pk_mul _ _) ?_
          refine k_iconst hK ti_85_58 kI_5 ?_
          refine k_iadd hK (z := (nI (10 * c + 5))) ti_85_59 (nI_add _ _) ?_
          refine k_iload_n hK ti_85_60 rfl ?_
          refine k_iadd hK (z := (nI (10 * c + 5 + p))) ti_85_61 (nI_add _ _) ?_
          refine k_istore hK (L' := [some (.ref 22), some (.int _), some (.int _), some (.int _), some (.int _), some (.int _)]) ti_85_62 rfl ?_
          refine k_aload_n hK ti_85_64 rfl ?_
          refine k_get hK ti_85_65 ow_85 fd_4_16 (by omega) rfl rfl ?_
          refine k_iload hK ti_85_68 rfl ?_
          refine k_iconst hK ti_85_70 kI_1 ?_
          refine k_iadd hK (z := (nI (10 * c + 5 + p + 1))) ti_85_71 (nI_add _ _) ?_
          refine k_aload_n hK ti_85_72 rfl ?_
          refine k_get hK ti_85_73 ow_85 fd_4_16 (by omega) rfl rfl ?_
          refine k_iload hK ti_85_76 rfl ?_
          refine k_iload hK ti_85_78 rfl ?_
          refine k_iload_n hK ti_85_80 rfl ?_
          refine k_isub hK (z := (nI ((g_many s c - 1) - p))) ti_85_81 (pk_sub (by omega)) ?_
          refine k_copy hK (10 * c + 5 + p + 1) (10 * c + 5 + p) ((g_many s c - 1) - p) ti_85_82 ow_85 nt_4_51 (Nat.le_of_ble_eq_true rfl) rfl rfl (by omega) (by omega) rfl rfl rfl (by rw [dpl_25]; omega) (by rw [dpl_25]; omega) ?_
          refine k_aload_n hK ti_85_85 rfl ?_
          refine k_iload_n hK ti_85_86 rfl ?_
          refine k_iconst hK ti_85_87 kI_1 ?_
          refine k_iload hK ti_85_88 rfl ?_
          refine k_callV hK (as := [.int _, .int _, .int _]) (st' := []) ti_85_90 ow_85 iv_4_57 mc_85 ms_85 rfl rfl (by omega) (Nat.le_of_ble_eq_true rfl) (Nat.le_of_ble_eq_true rfl) (Nat.le_of_ble_eq_true rfl) (Nat.le_of_ble_eq_true rfl) (by omega) rfl ?_
          refine sp_X4_put (by omega) c 1 _ (by omega) (by omega) ?_
          refine k_iload_n hK ti_85_93 rfl ?_
          refine k_ireturn hK ti_85_94 rk_85 mc_85 ms_85 (Nat.le_of_ble_eq_true rfl) (Nat.le_of_ble_eq_true rfl) ?_
          rw [e] at h
          exact h _ ⟨(Fr.up (Fr.row hF (Or.inl (by decide))) (Or.inl (by decide))), RG_drp hG (by omega) (by omega), (RLt_drp hL (by omega) (by omega) (by omega)), (by (repeat (first | rw [dp_up_h (by decide)] | rw [dp_up_k (by omega)] | rw [dp_row_ne (by decide)])); exact h0)⟩

set_option maxRecDepth 100000 in
set_option maxHeartbeats 4000000 in
theorem sp_X4_setBar {X : dp_X} {d n : Nat} {M : dp_M} {o : Int64} {Q : dp_Q} (h65 : 65 ≤ n) {s : GSt} {l : LSt} (x y : Int32) (hG : RG M s) (hL : RLt M l) (h : ∀ M', RA M M' (fc_setBar s l x y) → Q (.inl (some (.int (u_r (fc_setBar s l x y))))) M' o) : dp_run X (d + 2 + 1) 86 [.ref 22, .int x, .int y] n M o Q := by
  apply k_run
  intro K hK
  rw [mL_86]
  show K 0 [some (.ref 22), some (.int x), some (.int y), none] [] n 0 0 M o
  have hA16 := hG.1.1
  have hC6 := hG.1.2.1
  refine k_aload_n hK ti_86_0 rfl ?_
  refine k_iconst hK ti_86_1 kI_0 ?_
  refine k_put hK ti_86_2 ow_86 fd_4_19 (by omega) rfl rfl ?_
  have hF : Fr wR M (dp_up M 22 0 (nI 0)) := Fr.up0 _ (Fr.refl _ _)
  replace hG := hG.up0 (nI 0)
  replace hL := hL.up0 (nI 0)
  have h0 : dp_up M 22 0 (nI 0) 22 0 = nI 0 := dp_up_s _ _ _ _
  generalize hM9 : dp_up M 22 0 (nI 0) = M9 at hF hG hL h0 ⊢
  clear hM9
  refine k_aload_n hK ti_86_5 rfl ?_
  refine k_iload_n hK ti_86_6 rfl ?_
  refine k_callV hK (as := [.int _]) (st' := []) ti_86_7 ow_86 iv_4_64 mc_86 ms_86 rfl rfl (by omega) (Nat.le_of_ble_eq_true rfl) (Nat.le_of_ble_eq_true rfl) (Nat.le_of_ble_eq_true rfl) (Nat.le_of_ble_eq_true rfl) (by omega) rfl ?_
  refine sp_X4_isClient (by omega) _ hG ?_
  refine kb_ne hK ti_86_10 jt_10_9 (fun c_10 => ?_) (fun c_10 => ?_)
  · have e : fc_setBar s l x y = bad 1 0 s l := by simp only [fc_setBar, is_f c_10]
    refine k_aload_n hK ti_86_13 rfl ?_
    refine k_iconst hK ti_86_14 kI_1 ?_
    refine k_callV hK (as := [.int _]) (st' := []) ti_86_15 ow_86 iv_4_40 mc_86 ms_86 rfl rfl (by omega) (Nat.le_of_ble_eq_true rfl) (Nat.le_of_ble_eq_true rfl) (Nat.le_of_ble_eq_true rfl) (Nat.le_of_ble_eq_true rfl) (by omega) rfl ?_
    refine sp_X4_fail (by omega) _ ?_
    refine k_ireturn hK ti_86_18 rk_86 mc_86 ms_86 (Nat.le_of_ble_eq_true rfl) (Nat.le_of_ble_eq_true rfl) ?_
    rw [e] at h
    exact h _ (RA.bad rfl hF hG hL)
  · obtain ⟨c, hx_c⟩ := is_t c_10
    obtain ⟨hl_c, rfl⟩ := ix_some hx_c (by omega)
    refine k_iload_n hK ti_86_19 rfl ?_
    refine k_iconst hK ti_86_20 kI_0 ?_
    refine k_sipush hK ti_86_21 kS_999 ?_
    refine k_callS hK (as := [.int _, .int _, .int _]) (st' := []) ti_86_24 ow_86 iv_4_26 mc_86 ms_86 rfl rfl (by omega) (Nat.le_of_ble_eq_true rfl) (Nat.le_of_ble_eq_true rfl) (Nat.le_of_ble_eq_true rfl) (Nat.le_of_ble_eq_true rfl) ?_
    refine sp_X4_isIn (by omega) _ _ _ ?_
    refine kb_ne hK ti_86_27 jt_27_9 (fun c_27 => ?_) (fun c_27 => ?_)
    · have e : fc_setBar s l (nI c) y = bad 2 2 s l := by unfold fc_setBar; simp only [hx_c, c_27] <;> rfl
      refine k_aload_n hK ti_86_30 rfl ?_
      refine k_iconst hK ti_86_31 kI_2 ?_
      refine k_callV hK (as := [.int _]) (st' := []) ti_86_32 ow_86 iv_4_40 mc_86 ms_86 rfl rfl (by omega) (Nat.le_of_ble_eq_true rfl) (Nat.le_of_ble_eq_true rfl) (Nat.le_of_ble_eq_true rfl) (Nat.le_of_ble_eq_true rfl) (by omega) rfl ?_
      refine sp_X4_fail (by omega) _ ?_
      refine k_ireturn hK ti_86_35 rk_86 mc_86 ms_86 (Nat.le_of_ble_eq_true rfl) (Nat.le_of_ble_eq_true rfl) ?_
      rw [e] at h
      exact h _ (RA.bad rfl hF hG hL)
    · have e : fc_setBar s l (nI c) y = ok (g_bar s c) (setB s c y) l := by unfold fc_setBar; simp only [hx_c, c_27] <;> rfl
      refine k_aload_n hK ti_86_36 rfl ?_
      refine k_iload_n hK ti_86_37 rfl ?_
      refine k_iconst hK ti_86_38 kI_2 ?_
      refine k_callV hK (as := [.int _, .int _]) (st' := []) ti_86_39 ow_86 iv_4_61 mc_86 ms_86 rfl rfl (by omega) (Nat.le_of_ble_eq_true rfl) (Nat.le_of_ble_eq_true rfl) (Nat.le_of_ble_eq_true rfl) (Nat.le_of_ble_eq_true rfl) (by omega) rfl ?_
      refine sp_X4_cl (by omega) c 2 (by omega) (by omega) (k_aftv ((g_bar s c)) (hG.2.2.2.2.2.2.2.2 c (by omega)) ?_)
      refine k_istore_n hK (L' := [some (.ref 22), some (.int _), some (.int _), some (.int _)]) ti_86_42 rfl ?_
      refine k_aload_n hK ti_86_43 rfl ?_
      refine k_iload_n hK ti_86_44 rfl ?_
      refine k_iconst hK ti_86_45 kI_2 ?_
      refine k_iload_n hK ti_86_46 rfl ?_
      refine k_callV hK (as := [.int _, .int _, .int _]) (st' := []) ti_86_47 ow_86 iv_4_57 mc_86 ms_86 rfl rfl (by omega) (Nat.le_of_ble_eq_true rfl) (Nat.le_of_ble_eq_true rfl) (Nat.le_of_ble_eq_true rfl) (Nat.le_of_ble_eq_true rfl) (by omega) rfl ?_
      refine sp_X4_put (by omega) c 2 _ (by omega) (by omega) ?_
      refine k_iload_n hK ti_86_50 rfl ?_
      refine k_ireturn hK ti_86_51 rk_86 mc_86 ms_86 (Nat.le_of_ble_eq_true rfl) (Nat.le_of_ble_eq_true rfl) ?_
      rw [e] at h
      exact h _ ⟨(Fr.up hF (Or.inl (by decide))), RG_setB hG (by omega), (RLt_c2 (fun a9 _ => by (repeat (first | rw [dp_up_h (by decide)] | rw [dp_up_k (by omega)] | rw [dp_row_ne (by decide)]))) (fun c9 _ => ⟨by (repeat (first | rw [dp_up_h (by decide)] | rw [dp_up_k (by omega)] | rw [dp_row_ne (by decide)])), by (repeat (first | rw [dp_up_h (by decide)] | rw [dp_up_k (by omega)] | rw [dp_row_ne (by decide)])), by (repeat (first | rw [dp_up_h (by decide)] | rw [dp_up_k (by omega)] | rw [dp_row_ne (by decide)]))⟩) (by (repeat (first | rw [dp_up_h (by decide)] | rw [dp_up_k (by omega)] | rw [dp_row_ne (by decide)]))) hL), (by (repeat (first | rw [dp_up_h (by decide)] | rw [dp_up_k (by omega)] | rw [dp_row_ne (by decide)])); exact h0)⟩

set_option maxRecDepth 100000 in
set_option maxHeartbeats 4000000 in
theorem sp_X4_pay {X : dp_X} {d n : Nat} {M : dp_M} {o : Int64} {Q : dp_Q} (h65 : 65 ≤ n) {s : GSt} {l : LSt} (x y : Int32) (hG : RG M s) (hL : RLt M l) (h : ∀ M', RA M M' (fc_pay s l x y) → Q (.inl (some (.int (u_r (fc_pay s l x y))))) M' o) : dp_run X (d + 2 + 1) 87 [.ref 22, .int x, .int y] n M o Q := by
  apply k_run
  intro K hK
  rw [mL_87]
  show K 0 [some (.ref 22), some (.int x), some (.int y)] [] n 0 0 M o
  have hA16 := hG.1.1
  have hC6 := hG.1.2.1
  refine k_aload_n hK ti_87_0 rfl ?_
  refine k_iconst hK ti_87_1 kI_0 ?_
  refine k_put hK ti_87_2 ow_87 fd_4_19 (by omega) rfl rfl ?_
  have hF : Fr wR M (dp_up M 22 0 (nI 0)) := Fr.up0 _ (Fr.refl _ _)
  replace hG := hG.up0 (nI 0)
  replace hL := hL.up0 (nI 0)
  have h0 : dp_up M 22 0 (nI 0) 22 0 = nI 0 := dp_up_s _ _ _ _
  generalize hM9 : dp_up M 22 0 (nI 0) = M9 at hF hG hL h0 ⊢
  clear hM9
  refine k_aload_n hK ti_87_5 rfl ?_
  refine k_iload_n hK ti_87_6 rfl ?_
  refine k_callV hK (as := [.int _]) (st' := []) ti_87_7 ow_87 iv_4_64 mc_87 ms_87 rfl rfl (by omega) (Nat.le_of_ble_eq_true rfl) (Nat.le_of_ble_eq_true rfl) (Nat.le_of_ble_eq_true rfl) (Nat.le_of_ble_eq_true rfl) (by omega) rfl ?_
  refine sp_X4_isClient (by omega) _ hG ?_
  refine kb_ne hK ti_87_10 jt_10_9 (fun c_10 => ?_) (fun c_10 => ?_)
  · have e : fc_pay s l x y = bad 1 0 s l := by simp only [fc_pay, is_f c_10]
    refine k_aload_n hK ti_87_13 rfl ?_
    refine k_iconst hK ti_87_14 kI_1 ?_
    refine k_callV hK (as := [.int _]) (st' := []) ti_87_15 ow_87 iv_4_40 mc_87 ms_87 rfl rfl (by omega) (Nat.le_of_ble_eq_true rfl) (Nat.le_of_ble_eq_true rfl) (Nat.le_of_ble_eq_true rfl) (Nat.le_of_ble_eq_true rfl) (by omega) rfl ?_
    refine sp_X4_fail (by omega) _ ?_
    refine k_ireturn hK ti_87_18 rk_87 mc_87 ms_87 (Nat.le_of_ble_eq_true rfl) (Nat.le_of_ble_eq_true rfl) ?_
    rw [e] at h
    exact h _ (RA.bad rfl hF hG hL)
  · obtain ⟨c, hx_c⟩ := is_t c_10
    obtain ⟨hl_c, rfl⟩ := ix_some hx_c (by omega)
    refine k_iload_n hK ti_87_19 rfl ?_
    refine k_iconst hK ti_87_20 kI_1 ?_
    refine k_sipush hK ti_87_21 kS_999 ?_
    refine k_callS hK (as := [.int _, .int _, .int _]) (st' := []) ti_87_24 ow_87 iv_4_26 mc_87 ms_87 rfl rfl (by omega) (Nat.le_of_ble_eq_true rfl) (Nat.le_of_ble_eq_true rfl) (Nat.le_of_ble_eq_true rfl) (Nat.le_of_ble_eq_true rfl) ?_
    refine sp_X4_isIn (by omega) _ _ _ ?_
    refine kb_ne hK ti_87_27 jt_27_9 (fun c_27 => ?_) (fun c_27 => ?_)
    · have e : fc_pay s l (nI c) y = bad 2 2 s l := by unfold fc_pay; simp only [hx_c, c_27] <;> rfl
      refine k_aload_n hK ti_87_30 rfl ?_
      refine k_iconst hK ti_87_31 kI_2 ?_
      refine k_callV hK (as := [.int _]) (st' := []) ti_87_32 ow_87 iv_4_40 mc_87 ms_87 rfl rfl (by omega) (Nat.le_of_ble_eq_true rfl) (Nat.le_of_ble_eq_true rfl) (Nat.le_of_ble_eq_true rfl) (Nat.le_of_ble_eq_true rfl) (by omega) rfl ?_
      refine sp_X4_fail (by omega) _ ?_
      refine k_ireturn hK ti_87_35 rk_87 mc_87 ms_87 (Nat.le_of_ble_eq_true rfl) (Nat.le_of_ble_eq_true rfl) ?_
      rw [e] at h
      exact h _ (RA.bad rfl hF hG hL)
    · have e : fc_pay s l (nI c) y = ok (mn (nI 9999) (l_coin l c + y)) s (setC l c (mn (nI 9999) (l_coin l c + y))) := by unfold fc_pay; simp only [hx_c, c_27] <;> rfl
      refine k_aload_n hK ti_87_36 rfl ?_
      refine k_iload_n hK ti_87_37 rfl ?_
      refine k_iconst hK ti_87_38 kI_0 ?_
      refine k_sipush hK ti_87_39 kS_9999 ?_
      refine k_aload_n hK ti_87_42 rfl ?_
      refine k_iload_n hK ti_87_43 rfl ?_
      refine k_iconst hK ti_87_44 kI_0 ?_
      refine k_callV hK (as := [.int _, .int _]) (st' := [.int _, .int _, .int _, .ref 22]) ti_87_45 ow_87 iv_4_61 mc_87 ms_87 rfl rfl (by omega) (Nat.le_of_ble_eq_true rfl) (Nat.le_of_ble_eq_true rfl) (Nat.le_of_ble_eq_true rfl) (Nat.le_of_ble_eq_true rfl) (by omega) rfl ?_
      refine sp_X4_cl (by omega) c 0 (by omega) (by omega) (k_aftv ((l_coin l c)) ((hL.2.2.1 c (by omega)).1) ?_)
      refine k_iload_n hK ti_87_48 rfl ?_
      refine k_iadd hK ti_87_49 rfl ?_
      refine k_minv hK (mn (nI 9999) (l_coin l c + y)) ti_87_50 ow_87 nt_4_70 mc_87 ms_87 (Nat.le_of_ble_eq_true rfl) (Nat.le_of_ble_eq_true rfl) (Nat.le_of_ble_eq_true rfl) rfl ?_
      refine k_callV hK (as := [.int _, .int _, .int _]) (st' := []) ti_87_53 ow_87 iv_4_57 mc_87 ms_87 rfl rfl (by omega) (Nat.le_of_ble_eq_true rfl) (Nat.le_of_ble_eq_true rfl) (Nat.le_of_ble_eq_true rfl) (Nat.le_of_ble_eq_true rfl) (by omega) rfl ?_
      refine sp_X4_put (by omega) c 0 _ (by omega) (by omega) ?_
      refine k_aload_n hK ti_87_56 rfl ?_
      refine k_iload_n hK ti_87_57 rfl ?_
      refine k_iconst hK ti_87_58 kI_0 ?_
      refine k_callV hK (as := [.int _, .int _]) (st' := []) ti_87_59 ow_87 iv_4_61 mc_87 ms_87 rfl rfl (by omega) (Nat.le_of_ble_eq_true rfl) (Nat.le_of_ble_eq_true rfl) (Nat.le_of_ble_eq_true rfl) (Nat.le_of_ble_eq_true rfl) (by omega) rfl ?_
      refine sp_X4_cl (by omega) _ _ (by omega) (by omega) (k_aftv ((mn (nI 9999) (l_coin l c + y))) (dp_up_s _ _ _ _) ?_)
      refine k_ireturn hK ti_87_62 rk_87 mc_87 ms_87 (Nat.le_of_ble_eq_true rfl) (Nat.le_of_ble_eq_true rfl) ?_
      rw [e] at h
      exact h _ ⟨(Fr.up hF (Or.inl (by decide))), RG_coin hG, (RLt_setC hL), (by (repeat (first | rw [dp_up_h (by decide)] | rw [dp_up_k (by omega)] | rw [dp_row_ne (by decide)])); exact h0)⟩
