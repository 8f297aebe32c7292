/-! The class: its face, what changes. (written by wip/whole/cls8.py) -/
set_option maxRecDepth 100000 in
set_option maxHeartbeats 4000000 in
theorem sp_X3_setStem {X : dp_X} {d n : Nat} {M : dp_M} {o : dp_O} {Q : dp_Q} (h65 : 65 ≤ n) {s : GSt} {l : LSt} (x y : Int32) (hC : CG M s) (hN : CLn M l) (hV : WFL s l) (h : ∀ M', CA M M' (fc_setStem s l x y) → Q (cres (fc_setStem s l x y)) M' o) : dp_run X (d + 6 + 1) 17 [.ref 0, .int x, .int y] n M o Q := by
  apply k_run
  intro K hK
  rw [mL_17]
  show K 0 [some (.ref 0), some (.int x), some (.int y), none] [] n 0 0 M o
  have hA16 := hC.w.1
  have hC6 := hC.w.2.1
  refine k_iload_n hK ti_17_0 rfl ?_
  refine k_callS hK (as := [.int _]) (st' := []) ti_17_1 ow_17 iv_3_37 mc_17 ms_17 rfl rfl (by omega) (Nat.le_of_ble_eq_true rfl) (Nat.le_of_ble_eq_true rfl) (Nat.le_of_ble_eq_true rfl) (Nat.le_of_ble_eq_true rfl) ?_
  refine sp_X3_checkWord (by omega) _ (fun c_1 => ?_) (fun c_1 => ?_)
  · obtain ⟨a, hx_a⟩ := is_t c_1
    obtain ⟨hl_a, rfl⟩ := ix_some hx_a (by omega)
    refine k_iload_n hK ti_17_4 rfl ?_
    refine k_callS hK (as := [.int _]) (st' := []) ti_17_5 ow_17 iv_3_41 mc_17 ms_17 rfl rfl (by omega) (Nat.le_of_ble_eq_true rfl) (Nat.le_of_ble_eq_true rfl) (Nat.le_of_ble_eq_true rfl) (Nat.le_of_ble_eq_true rfl) ?_
    refine sp_X3_checkStem (by omega) _ (fun c_5 => ?_) (fun c_5 => ?_)
    · obtain ⟨b, hx_b⟩ := is_t c_5
      obtain ⟨hl_b, rfl⟩ := ix_some hx_b (by omega)
      have e : fc_setStem s l (nI a) (nI b) = ok (nI (g_st s a)) (setSt s a b) l := (by simp only [fc_setStem, hx_a, hx_b])
      refine k_aload_n hK ti_17_8 rfl ?_
      refine k_get hK ti_17_9 ow_17 fd_3_10 (by omega) rfl rfl ?_
      refine k_get hK ti_17_12 ow_17 fd_3_44 (by omega) rfl rfl ?_
      refine k_iload_n hK ti_17_15 rfl ?_
      refine k_ialdv (v := (nI (g_st s a))) hK a ti_17_16 rfl (by omega) (by omega) rfl (by rw [dpl_6]; omega) (hC.st a (by omega)) ?_
      refine k_istore_n hK (L' := [some (.ref 0), some (.int _), some (.int _), some (.int _)]) ti_17_17 rfl ?_
      refine k_aload_n hK ti_17_18 rfl ?_
      refine k_get hK ti_17_19 ow_17 fd_3_10 (by omega) rfl rfl ?_
      refine k_get hK ti_17_22 ow_17 fd_3_44 (by omega) rfl rfl ?_
      refine k_iload_n hK ti_17_25 rfl ?_
      refine k_iload_n hK ti_17_26 rfl ?_
      refine k_iast hK a ti_17_27 rfl (by omega) rfl (by rw [dpl_6]; omega) ?_
      refine k_aload_n hK ti_17_28 rfl ?_
      refine k_get hK ti_17_29 ow_17 fd_3_10 (by omega) rfl rfl ?_
      refine k_callV hK (as := []) (st' := []) ti_17_32 ow_17 iv_3_47 mc_17 ms_17 rfl rfl (by omega) (Nat.le_of_ble_eq_true rfl) (Nat.le_of_ble_eq_true rfl) (Nat.le_of_ble_eq_true rfl) (Nat.le_of_ble_eq_true rfl) (by omega) rfl ?_
      refine sp_X2_recount (by omega) (C_setSt hC hl_a hl_b) (fun M3 hF3 hC3 => ?_)
      have hF4 : Fr wC M _ := Fr.up (Fr.refl _ _) (k := a) (x := nI b) (h := 6) (by simp only [wC]; omega)
      have hN3 := CL.frT hF3 (CL_up hN (h := 6) (k := a) (x := nI b) (by simp only [wL_n]; omega))
      refine k_iload_n hK ti_17_35 rfl ?_
      refine k_ireturn hK ti_17_36 rk_17 mc_17 ms_17 (Nat.le_of_ble_eq_true rfl) (Nat.le_of_ble_eq_true rfl) ?_
      rw [e] at h
      exact h _ ⟨hF4.trans hF3.tC, hC3, hN3⟩
    · (have e : fc_setStem s l (nI a) y = bad 1 0 s l := (by simp only [fc_setStem, hx_a, c_5]); refine k_leaves hh_17 mc_17 ms_17 (Nat.le_of_ble_eq_true rfl) (Nat.le_of_ble_eq_true rfl) ?_; rw [e] at h; exact h M ⟨Fr.refl _ _, hC, hN⟩)
  · (have e : fc_setStem s l x y = bad 1 0 s l := (by simp only [fc_setStem, c_1]); refine k_leaves hh_17 mc_17 ms_17 (Nat.le_of_ble_eq_true rfl) (Nat.le_of_ble_eq_true rfl) ?_; rw [e] at h; exact h M ⟨Fr.refl _ _, hC, hN⟩)

set_option maxRecDepth 100000 in
set_option maxHeartbeats 4000000 in
theorem sp_X3_write {X : dp_X} {d n : Nat} {M : dp_M} {o : dp_O} {Q : dp_Q} (h65 : 65 ≤ n) {s : GSt} {l : LSt} (x y : Int32) (hC : CG M s) (hN : CLn M l) (hV : WFL s l) (h : ∀ M', CA M M' (fc_write s l x y) → Q (cres (fc_write s l x y)) M' o) : dp_run X (d + 6 + 1) 19 [.ref 0, .int x, .int y] n M o Q := by
  apply k_run
  intro K hK
  rw [mL_19]
  show K 0 [some (.ref 0), some (.int x), some (.int y), none] [] n 0 0 M o
  have hA16 := hC.w.1
  have hC6 := hC.w.2.1
  refine k_aload_n hK ti_19_0 rfl ?_
  refine k_iload_n hK ti_19_1 rfl ?_
  refine k_callV hK (as := [.int _]) (st' := []) ti_19_2 ow_19 iv_3_61 mc_19 ms_19 rfl rfl (by omega) (Nat.le_of_ble_eq_true rfl) (Nat.le_of_ble_eq_true rfl) (Nat.le_of_ble_eq_true rfl) (Nat.le_of_ble_eq_true rfl) (by omega) rfl ?_
  refine sp_X3_checkArticle (by omega) _ hC (fun c_2 => ?_) (fun c_2 => ?_)
  · obtain ⟨a, hx_a⟩ := is_t c_2
    obtain ⟨hl_a, rfl⟩ := ix_some hx_a (by omega)
    refine k_iload_n hK ti_19_5 rfl ?_
    refine k_callS hK (as := [.int _]) (st' := []) ti_19_6 ow_19 iv_3_37 mc_19 ms_19 rfl rfl (by omega) (Nat.le_of_ble_eq_true rfl) (Nat.le_of_ble_eq_true rfl) (Nat.le_of_ble_eq_true rfl) (Nat.le_of_ble_eq_true rfl) ?_
    refine sp_X3_checkWord (by omega) _ (fun c_6 => ?_) (fun c_6 => ?_)
    · obtain ⟨w, hx_w⟩ := is_t c_6
      obtain ⟨hl_w, rfl⟩ := ix_some hx_w (by omega)
      have hlen := hC.w.2.2.2.1 a (by omega)
      refine k_aload_n hK ti_19_9 rfl ?_
      refine k_get hK ti_19_10 ow_19 fd_3_10 (by omega) rfl rfl ?_
      refine k_get hK ti_19_13 ow_19 fd_3_64 (by omega) rfl rfl ?_
      refine k_iload_n hK ti_19_16 rfl ?_
      refine k_ialdv (v := (nI (g_len s a))) hK a ti_19_17 rfl (by omega) (by omega) rfl (by rw [dpl_8]; omega) (hC.len a (by omega)) ?_
      refine k_istore_n hK (L' := [some (.ref 0), some (.int _), some (.int _), some (.int _)]) ti_19_18 rfl ?_
      refine k_iload_n hK ti_19_19 rfl ?_
      refine k_bipush hK ti_19_20 kB_12 ?_
      refine kn_lt hK (by omega) (by omega) ti_19_22 jt_22_13 (fun c_22 => ?_) (fun c_22 => ?_)
      · have e : fc_write s l (nI a) (nI w) = ok (nI (g_len s a + 1)) (wrt s a w) l := (by simp only [fc_write, hx_a, hx_w, if_neg (show ¬ g_len s a = 12 by omega)])
        refine k_aload_n hK ti_19_35 rfl ?_
        refine k_get hK ti_19_36 ow_19 fd_3_10 (by omega) rfl rfl ?_
        refine k_get hK ti_19_39 ow_19 fd_3_69 (by omega) rfl rfl ?_
        refine k_iload_n hK ti_19_42 rfl ?_
        refine k_aald7 hK a ti_19_43 (by omega) rfl (by omega) ?_
        refine k_iload_n hK ti_19_44 rfl ?_
        refine k_iload_n hK ti_19_45 rfl ?_
        refine k_iast hK (g_len s a) ti_19_46 (dp_isA_t _ (by omega)) (by omega) rfl (by rw [dpl_27 _ (by omega)]; omega) ?_
        refine k_aload_n hK ti_19_47 rfl ?_
        refine k_get hK ti_19_48 ow_19 fd_3_10 (by omega) rfl rfl ?_
        refine k_get hK ti_19_51 ow_19 fd_3_64 (by omega) rfl rfl ?_
        refine k_iload_n hK ti_19_54 rfl ?_
        refine k_iload_n hK ti_19_55 rfl ?_
        refine k_iconst hK ti_19_56 kI_1 ?_
        refine k_iadd hK (z := (nI (g_len s a + 1))) ti_19_57 (nI_add _ _) ?_
        refine k_iast hK a ti_19_58 rfl (by omega) rfl (by rw [dpl_8]; omega) ?_
        refine k_aload_n hK ti_19_59 rfl ?_
        refine k_get hK ti_19_60 ow_19 fd_3_10 (by omega) rfl rfl ?_
        refine k_callV hK (as := []) (st' := []) ti_19_63 ow_19 iv_3_47 mc_19 ms_19 rfl rfl (by omega) (Nat.le_of_ble_eq_true rfl) (Nat.le_of_ble_eq_true rfl) (Nat.le_of_ble_eq_true rfl) (Nat.le_of_ble_eq_true rfl) (by omega) rfl ?_
        refine sp_X2_recount (by omega) (C_wrt hC hl_a hl_w c_22) (fun M3 hF3 hC3 => ?_)
        have hF4 : Fr wC M _ := Fr.up (Fr.up (Fr.refl _ _) (h := 27 + a) (k := g_len s a) (x := nI w) (by simp only [wC]; omega)) (h := 8) (k := a) (x := nI (g_len s a + 1)) (by simp only [wC]; omega)
        have hN3 := CL.frT hF3 (CL_up (CL_up hN (h := 27 + a) (k := g_len s a) (x := nI w) (by simp only [wL_n]; omega)) (h := 8) (k := a) (x := nI (g_len s a + 1)) (by simp only [wL_n]; omega))
        refine k_iload_n hK ti_19_66 rfl ?_
        refine k_iconst hK ti_19_67 kI_1 ?_
        refine k_iadd hK (z := (nI (g_len s a + 1))) ti_19_68 (nI_add _ _) ?_
        refine k_ireturn hK ti_19_69 rk_19 mc_19 ms_19 (Nat.le_of_ble_eq_true rfl) (Nat.le_of_ble_eq_true rfl) ?_
        rw [e] at h
        exact h _ ⟨hF4.trans hF3.tC, hC3, hN3⟩
      · have e : fc_write s l (nI a) (nI w) = bad 2 1 s l := (by simp only [fc_write, hx_a, hx_w, if_pos (show g_len s a = 12 by omega)])
        refine k_throw hK 1 ti_19_25 ow_19 rfl (by decide) mc_19 ms_19 (by omega) (Nat.le_of_ble_eq_true rfl) (Nat.le_of_ble_eq_true rfl) (Nat.le_of_ble_eq_true rfl) ?_
        rw [e] at h
        exact h M ⟨Fr.refl _ _, hC, hN⟩
    · (have e : fc_write s l (nI a) y = bad 1 0 s l := (by simp only [fc_write, hx_a, c_6]); refine k_leaves hh_19 mc_19 ms_19 (Nat.le_of_ble_eq_true rfl) (Nat.le_of_ble_eq_true rfl) ?_; rw [e] at h; exact h M ⟨Fr.refl _ _, hC, hN⟩)
  · (have e : fc_write s l x y = bad 1 0 s l := (by simp only [fc_write, c_2]); refine k_leaves hh_19 mc_19 ms_19 (Nat.le_of_ble_eq_true rfl) (Nat.le_of_ble_eq_true rfl) ?_; rw [e] at h; exact h M ⟨Fr.refl _ _, hC, hN⟩)

set_option maxRecDepth 100000 in
set_option maxHeartbeats 4000000 in
theorem sp_X3_print {X : dp_X} {d n : Nat} {M : dp_M} {o : dp_O} {Q : dp_Q} (h65 : 65 ≤ n) {s : GSt} {l : LSt} (hC : CG M s) (hN : CLn M l) (hV : WFL s l) (h : ∀ M', CA M M' (fc_print s l) → Q (cres (fc_print s l)) M' o) : dp_run X (d + 5 + 1) 18 [.ref 0] n M o Q := by
  apply k_run
  intro K hK
  rw [mL_18]
  show K 0 [some (.ref 0)] [] n 0 0 M o
  have hA16 := hC.w.1
  have hC6 := hC.w.2.1
  refine k_aload_n hK ti_18_0 rfl ?_
  refine k_get hK ti_18_1 ow_18 fd_3_10 (by omega) rfl rfl ?_
  refine k_geti hK (nI (g_nA s)) ti_18_4 ow_18 fd_3_50 (by omega) rfl rfl hC.nA ?_
  refine k_bipush hK ti_18_7 kB_16 ?_
  refine kn_lt hK (by omega) (by omega) ti_18_9 jt_9_13 (fun c_9 => ?_) (fun c_9 => ?_)
  · have e : fc_print s l = ok (nI (g_nA s)) (prt s) l := (by unfold fc_print; rw [if_neg (by omega)])
    refine k_aload_n hK ti_18_22 rfl ?_
    refine k_get hK ti_18_23 ow_18 fd_3_10 (by omega) rfl rfl ?_
    refine k_dup hK ti_18_26 rfl ?_
    refine k_geti hK (nI (g_nA s)) ti_18_27 ow_18 fd_3_50 (by omega) rfl rfl hC.nA ?_
    refine k_iconst hK ti_18_30 kI_1 ?_
    refine k_iadd hK (z := (nI (g_nA s + 1))) ti_18_31 (nI_add _ _) ?_
    refine k_put hK ti_18_32 ow_18 fd_3_50 (by omega) rfl rfl ?_
    refine k_aload_n hK ti_18_35 rfl ?_
    refine k_get hK ti_18_36 ow_18 fd_3_10 (by omega) rfl rfl ?_
    refine k_geti hK (nI (g_nA s + 1)) ti_18_39 ow_18 fd_3_50 (by omega) rfl rfl (dp_up_s _ _ _ _) ?_
    refine k_iconst hK ti_18_42 kI_1 ?_
    refine k_isub hK (z := (nI (g_nA s))) ti_18_43 (pk_sub (by omega)) ?_
    refine k_ireturn hK ti_18_44 rk_18 mc_18 ms_18 (Nat.le_of_ble_eq_true rfl) (Nat.le_of_ble_eq_true rfl) ?_
    rw [e] at h
    exact h _ ⟨Fr.up (Fr.refl _ _) (by simp only [wC]; omega), C_prt hC c_9, CL_up hN (by simp only [wL_n]; omega)⟩
  · have e : fc_print s l = bad 1 1 s l := (by unfold fc_print; rw [if_pos (by omega)])
    refine k_throw hK 1 ti_18_12 ow_18 rfl (by decide) mc_18 ms_18 (by omega) (Nat.le_of_ble_eq_true rfl) (Nat.le_of_ble_eq_true rfl) (Nat.le_of_ble_eq_true rfl) ?_
    rw [e] at h
    exact h M ⟨Fr.refl _ _, hC, hN⟩

set_option maxRecDepth 100000 in
set_option maxHeartbeats 4000000 in
theorem sp_X3_strike {X : dp_X} {d n : Nat} {M : dp_M} {o : dp_O} {Q : dp_Q} (h65 : 65 ≤ n) {s : GSt} {l : LSt} (x y : Int32) (hC : CG M s) (hN : CLn M l) (hV : WFL s l) (h : ∀ M', CA M M' (fc_strike s l x y) → Q (cres (fc_strike s l x y)) M' o) : dp_run X (d + 6 + 1) 20 [.ref 0, .int x, .int y] n M o Q := by
  apply k_run
  intro K hK
  rw [mL_20]
  show K 0 [some (.ref 0), some (.int x), some (.int y), none] [] n 0 0 M o
  have hA16 := hC.w.1
  have hC6 := hC.w.2.1
  refine k_aload_n hK ti_20_0 rfl ?_
  refine k_iload_n hK ti_20_1 rfl ?_
  refine k_callV hK (as := [.int _]) (st' := []) ti_20_2 ow_20 iv_3_61 mc_20 ms_20 rfl rfl (by omega) (Nat.le_of_ble_eq_true rfl) (Nat.le_of_ble_eq_true rfl) (Nat.le_of_ble_eq_true rfl) (Nat.le_of_ble_eq_true rfl) (by omega) rfl ?_
  refine sp_X3_checkArticle (by omega) _ hC (fun c_2 => ?_) (fun c_2 => ?_)
  · obtain ⟨a, hx_a⟩ := is_t c_2
    obtain ⟨hl_a, rfl⟩ := ix_some hx_a (by omega)
    have hlen := hC.w.2.2.2.1 a (by omega)
    refine k_iload_n hK ti_20_5 rfl ?_
    refine k_aload_n hK ti_20_6 rfl ?_
    refine k_get hK ti_20_7 ow_20 fd_3_10 (by omega) rfl rfl ?_
    refine k_get hK ti_20_10 ow_20 fd_3_64 (by omega) rfl rfl ?_
    refine k_iload_n hK ti_20_13 rfl ?_
    refine k_ialdv (v := (nI (g_len s a))) hK a ti_20_14 rfl (by omega) (by omega) rfl (by rw [dpl_8]; omega) (hC.len a (by omega)) ?_
    refine k_callS hK (as := [.int _, .int _]) (st' := []) ti_20_15 ow_20 iv_3_73 mc_20 ms_20 rfl rfl (by omega) (Nat.le_of_ble_eq_true rfl) (Nat.le_of_ble_eq_true rfl) (Nat.le_of_ble_eq_true rfl) (Nat.le_of_ble_eq_true rfl) ?_
    refine sp_X3_checkPlace (by omega) _ (g_len s a) (fun c_15 => ?_) (fun c_15 => ?_)
    · obtain ⟨p, hx_p⟩ := is_t c_15
      obtain ⟨hl_p, rfl⟩ := ix_some hx_p (by omega)
      have e : fc_strike s l (nI a) (nI p) = ok (nI (g_wd s a p)) (stk s a p) l := (by simp only [fc_strike, hx_a, hx_p])
      refine k_aload_n hK ti_20_18 rfl ?_
      refine k_get hK ti_20_19 ow_20 fd_3_10 (by omega) rfl rfl ?_
      refine k_get hK ti_20_22 ow_20 fd_3_69 (by omega) rfl rfl ?_
      refine k_iload_n hK ti_20_25 rfl ?_
      refine k_aald7 hK a ti_20_26 (by omega) rfl (by omega) ?_
      refine k_iload_n hK ti_20_27 rfl ?_
      refine k_ialdv (v := (nI (g_wd s a p))) hK p ti_20_28 (dp_isA_t _ (by omega)) (by omega) (by omega) rfl (by rw [dpl_27 _ (by omega)]; omega) (hC.wd a p (by omega) (by omega)) ?_
      refine k_istore_n hK (L' := [some (.ref 0), some (.int _), some (.int _), some (.int _)]) ti_20_29 rfl ?_
      refine k_aload_n hK ti_20_30 rfl ?_
      refine k_get hK ti_20_31 ow_20 fd_3_10 (by omega) rfl rfl ?_
      refine k_get hK ti_20_34 ow_20 fd_3_64 (by omega) rfl rfl ?_
      refine k_iload_n hK ti_20_37 rfl ?_
      refine k_aload_n hK ti_20_38 rfl ?_
      refine k_get hK ti_20_39 ow_20 fd_3_10 (by omega) rfl rfl ?_
      refine k_get hK ti_20_42 ow_20 fd_3_69 (by omega) rfl rfl ?_
      refine k_iload_n hK ti_20_45 rfl ?_
      refine k_aald7 hK a ti_20_46 (by omega) rfl (by omega) ?_
      refine k_aload_n hK ti_20_47 rfl ?_
      refine k_get hK ti_20_48 ow_20 fd_3_10 (by omega) rfl rfl ?_
      refine k_get hK ti_20_51 ow_20 fd_3_64 (by omega) rfl rfl ?_
      refine k_iload_n hK ti_20_54 rfl ?_
      refine k_ialdv (v := (nI (g_len s a))) hK a ti_20_55 rfl (by omega) (by omega) rfl (by rw [dpl_8]; omega) (hC.len a (by omega)) ?_
      refine k_iload_n hK ti_20_56 rfl ?_
      refine k_callS hK (as := [.ref (27 + a), .int _, .int _]) (st' := [.int _, .ref 8]) ti_20_57 ow_20 iv_3_77 mc_20 ms_20 rfl rfl (by omega) (Nat.le_of_ble_eq_true rfl) (Nat.le_of_ble_eq_true rfl) (Nat.le_of_ble_eq_true rfl) (Nat.le_of_ble_eq_true rfl) ?_
      refine sp_X3_removeAt (by omega) (27 + a) (g_len s a) p (dp_isA_t _ (by omega)) (by omega) (by rw [dpl_27 _ (by omega)]; omega) hl_p hlen (fun M2 g1 g2 => ?_)
      have hF2 : Fr wC M M2 := fun b k z => g2 b k (fun y => z (by simp only [wC]; omega))
      have hN2 : CLn M2 l := CL_n_congr (fun b k z => g2 b k (fun y => by simp only [wL_n] at z; omega)) hN
      refine k_iast hK a ti_20_60 rfl (by omega) rfl (by rw [dpl_8]; omega) ?_
      refine k_aload_n hK ti_20_61 rfl ?_
      refine k_get hK ti_20_62 ow_20 fd_3_10 (by omega) rfl rfl ?_
      refine k_callV hK (as := []) (st' := []) ti_20_65 ow_20 iv_3_47 mc_20 ms_20 rfl rfl (by omega) (Nat.le_of_ble_eq_true rfl) (Nat.le_of_ble_eq_true rfl) (Nat.le_of_ble_eq_true rfl) (Nat.le_of_ble_eq_true rfl) (by omega) rfl ?_
      refine sp_X2_recount (by omega) (C_stk hC hl_a hl_p g1 g2) (fun M3 hF3 hC3 => ?_)
      have hF4 : Fr wC M _ := hF2.up (h := 8) (k := a) (x := nI (g_len s a - 1)) (by simp only [wC]; omega)
      have hN3 := CL.frT hF3 (CL_up hN2 (h := 8) (k := a) (x := nI (g_len s a - 1)) (by simp only [wL_n]; omega))
      refine k_iload_n hK ti_20_68 rfl ?_
      refine k_ireturn hK ti_20_69 rk_20 mc_20 ms_20 (Nat.le_of_ble_eq_true rfl) (Nat.le_of_ble_eq_true rfl) ?_
      rw [e] at h
      exact h _ ⟨hF4.trans hF3.tC, hC3, hN3⟩
    · (have e : fc_strike s l (nI a) y = bad 1 0 s l := (by simp only [fc_strike, hx_a, c_15]); refine k_leaves hh_20 mc_20 ms_20 (Nat.le_of_ble_eq_true rfl) (Nat.le_of_ble_eq_true rfl) ?_; rw [e] at h; exact h M ⟨Fr.refl _ _, hC, hN⟩)
  · (have e : fc_strike s l x y = bad 1 0 s l := (by simp only [fc_strike, c_2]); refine k_leaves hh_20 mc_20 ms_20 (Nat.le_of_ble_eq_true rfl) (Nat.le_of_ble_eq_true rfl) ?_; rw [e] at h; exact h M ⟨Fr.refl _ _, hC, hN⟩)

set_option maxRecDepth 100000 in
set_option maxHeartbeats 4000000 in
theorem sp_X3_client {X : dp_X} {d n : Nat} {M : dp_M} {o : dp_O} {Q : dp_Q} (h65 : 65 ≤ n) {s : GSt} {l : LSt} (x : Int32) (hC : CG M s) (hN : CLn M l) (hV : WFL s l) (h : ∀ M', CA M M' (fc_client s l x) → Q (cres (fc_client s l x)) M' o) : dp_run X (d + 5 + 1) 21 [.ref 0, .int x] n M o Q := by
  apply k_run
  intro K hK
  rw [mL_21]
  show K 0 [some (.ref 0), some (.int x), none] [] n 0 0 M o
  have hA16 := hC.w.1
  have hC6 := hC.w.2.1
  refine k_iload_n hK ti_21_0 rfl ?_
  refine k_if_lt hK ti_21_1 jt_1_10 (fun c_1 => ?_) (fun c_1 => ?_)
  · rw [← nI_0] at c_1
    have e : fc_client s l x = bad 1 2 s l := (by unfold fc_client; rw [if_neg (by simp [isin, c_1])])
    refine k_throw hK 2 ti_21_11 ow_21 rfl (by decide) mc_21 ms_21 (by omega) (Nat.le_of_ble_eq_true rfl) (Nat.le_of_ble_eq_true rfl) (Nat.le_of_ble_eq_true rfl) ?_
    rw [e] at h
    exact h M ⟨Fr.refl _ _, hC, hN⟩
  · rw [← nI_0] at c_1
    refine k_iload_n hK ti_21_4 rfl ?_
    refine k_sipush hK ti_21_5 kS_999 ?_
    refine k_icmp_le hK ti_21_8 jt_8_13 (fun c_8 => ?_) (fun c_8 => ?_)
    · have e : fc_client s l x = bad 1 2 s l := (by unfold fc_client; rw [if_neg (by simp [isin, c_8])])
      refine k_throw hK 2 ti_21_11 ow_21 rfl (by decide) mc_21 ms_21 (by omega) (Nat.le_of_ble_eq_true rfl) (Nat.le_of_ble_eq_true rfl) (Nat.le_of_ble_eq_true rfl) ?_
      rw [e] at h
      exact h M ⟨Fr.refl _ _, hC, hN⟩
    · have hin : isin x (nI 0) (nI 999) = true := by simp [isin, c_1, c_8]
      refine k_aload_n hK ti_21_21 rfl ?_
      refine k_get hK ti_21_22 ow_21 fd_3_19 (by omega) rfl rfl ?_
      refine k_geti hK (nI (g_nC s)) ti_21_25 ow_21 fd_3_86 (by omega) rfl rfl hC.nC ?_
      refine k_istore_n hK (L' := [some (.ref 0), some (.int _), some (.int _)]) ti_21_28 rfl ?_
      refine k_iload_n hK ti_21_29 rfl ?_
      refine k_bipush hK ti_21_30 kB_6 ?_
      refine kn_lt hK (by omega) (by omega) ti_21_32 jt_32_13 (fun c_32 => ?_) (fun c_32 => ?_)
      · have e : fc_client s l x = ok (nI (g_nC s)) (cli s) (setC l (g_nC s) x) := (by unfold fc_client; rw [if_pos hin, if_neg (by omega)])
        refine k_aload_n hK ti_21_45 rfl ?_
        refine k_get hK ti_21_46 ow_21 fd_3_26 (by omega) rfl rfl ?_
        refine k_get hK ti_21_49 ow_21 fd_3_91 (by omega) rfl rfl ?_
        refine k_iload_n hK ti_21_52 rfl ?_
        refine k_iload_n hK ti_21_53 rfl ?_
        refine k_iast hK (g_nC s) ti_21_54 rfl (by omega) rfl (by rw [dpl_15]; omega) ?_
        refine k_aload_n hK ti_21_55 rfl ?_
        refine k_get hK ti_21_56 ow_21 fd_3_19 (by omega) rfl rfl ?_
        refine k_iload_n hK ti_21_59 rfl ?_
        refine k_iconst hK ti_21_60 kI_1 ?_
        refine k_iadd hK (z := (nI (g_nC s + 1))) ti_21_61 (nI_add _ _) ?_
        refine k_put hK ti_21_62 ow_21 fd_3_86 (by omega) rfl rfl ?_
        refine k_iload_n hK ti_21_65 rfl ?_
        refine k_ireturn hK ti_21_66 rk_21 mc_21 ms_21 (Nat.le_of_ble_eq_true rfl) (Nat.le_of_ble_eq_true rfl) ?_
        rw [e] at h
        exact h _ ⟨Fr.up (Fr.up (Fr.refl _ _) (by simp only [wC]; omega)) (by simp only [wC]; omega), C_cli hC c_32, CL_up (CL_setC hN) (by simp only [wL_n]; omega)⟩
      · have e : fc_client s l x = bad 2 1 s l := (by unfold fc_client; rw [if_pos hin, if_pos (by omega)])
        refine k_throw hK 1 ti_21_35 ow_21 rfl (by decide) mc_21 ms_21 (by omega) (Nat.le_of_ble_eq_true rfl) (Nat.le_of_ble_eq_true rfl) (Nat.le_of_ble_eq_true rfl) ?_
        rw [e] at h
        exact h M ⟨Fr.refl _ _, hC, hN⟩

set_option maxRecDepth 100000 in
set_option maxHeartbeats 4000000 in
theorem sp_X3_want {X : dp_X} {d n : Nat} {M : dp_M} {o : dp_O} {Q : dp_Q} (h65 : 65 ≤ n) {s : GSt} {l : LSt} (x y : Int32) (hC : CG M s) (hN : CLn M l) (hV : WFL s l) (h : ∀ M', CA M M' (fc_want s l x y) → Q (cres (fc_want s l x y)) M' o) : dp_run X (d + 6 + 1) 22 [.ref 0, .int x, .int y] n M o Q := by
  apply k_run
  intro K hK
  rw [mL_22]
  show K 0 [some (.ref 0), some (.int x), some (.int y), none] [] n 0 0 M o
  have hA16 := hC.w.1
  have hC6 := hC.w.2.1
  refine k_aload_n hK ti_22_0 rfl ?_
  refine k_iload_n hK ti_22_1 rfl ?_
  refine k_callV hK (as := [.int _]) (st' := []) ti_22_2 ow_22 iv_3_94 mc_22 ms_22 rfl rfl (by omega) (Nat.le_of_ble_eq_true rfl) (Nat.le_of_ble_eq_true rfl) (Nat.le_of_ble_eq_true rfl) (Nat.le_of_ble_eq_true rfl) (by omega) rfl ?_
  refine sp_X3_checkClient (by omega) _ hC (fun c_2 => ?_) (fun c_2 => ?_)
  · obtain ⟨c, hx_c⟩ := is_t c_2
    obtain ⟨hl_c, rfl⟩ := ix_some hx_c (by omega)
    refine k_iload_n hK ti_22_5 rfl ?_
    refine k_callS hK (as := [.int _]) (st' := []) ti_22_6 ow_22 iv_3_41 mc_22 ms_22 rfl rfl (by omega) (Nat.le_of_ble_eq_true rfl) (Nat.le_of_ble_eq_true rfl) (Nat.le_of_ble_eq_true rfl) (Nat.le_of_ble_eq_true rfl) ?_
    refine sp_X3_checkStem (by omega) _ (fun c_6 => ?_) (fun c_6 => ?_)
    · obtain ⟨w, hx_w⟩ := is_t c_6
      obtain ⟨hl_w, rfl⟩ := ix_some hx_w (by omega)
      have hm5 := hC.w.2.2.2.2.2.1 c (by omega)
      refine k_aload_n hK ti_22_9 rfl ?_
      refine k_get hK ti_22_10 ow_22 fd_3_19 (by omega) rfl rfl ?_
      refine k_get hK ti_22_13 ow_22 fd_3_97 (by omega) rfl rfl ?_
      refine k_iload_n hK ti_22_16 rfl ?_
      refine k_ialdv (v := (nI (g_many s c))) hK c ti_22_17 rfl (by omega) (by omega) rfl (by rw [dpl_12]; omega) (hC.many c (by omega)) ?_
      refine k_istore_n hK (L' := [some (.ref 0), some (.int _), some (.int _), some (.int _)]) ti_22_18 rfl ?_
      refine k_iload_n hK ti_22_19 rfl ?_
      refine k_iconst hK ti_22_20 kI_5 ?_
      refine kn_lt hK (by omega) (by omega) ti_22_21 jt_21_13 (fun c_21 => ?_) (fun c_21 => ?_)
      · have hm : ¬ g_many s c = 5 := by omega
        refine k_aload_n hK ti_22_34 rfl ?_
        refine k_get hK ti_22_35 ow_22 fd_3_19 (by omega) rfl rfl ?_
        refine k_iload_n hK ti_22_38 rfl ?_
        refine k_iload_n hK ti_22_39 rfl ?_
        refine k_callV hK (as := [.int _, .int _]) (st' := []) ti_22_40 ow_22 iv_3_102 mc_22 ms_22 rfl rfl (by omega) (Nat.le_of_ble_eq_true rfl) (Nat.le_of_ble_eq_true rfl) (Nat.le_of_ble_eq_true rfl) (Nat.le_of_ble_eq_true rfl) (by omega) rfl ?_
        refine sp_X1_placeOf (by omega) c w hC (by omega) (by omega) ?_
        rcases hwi : wsh s c w with _ | p
        · have e : fc_want s l (nI c) (nI w) = ok (nI (g_many s c + 1)) (adds s c w) l := (by simp only [fc_want, hx_c, hx_w, if_neg hm, hwi])
          refine k_iconst hK ti_22_43 kI_m1 ?_
          refine k_icmp_eq hK ti_22_44 jt_44_13 (fun c_44 => ?_) (fun c_44 => ?_)
          · refine k_aload_n hK ti_22_57 rfl ?_
            refine k_get hK ti_22_58 ow_22 fd_3_19 (by omega) rfl rfl ?_
            refine k_get hK ti_22_61 ow_22 fd_3_108 (by omega) rfl rfl ?_
            refine k_iload_n hK ti_22_64 rfl ?_
            refine k_aald11 hK c ti_22_65 (by omega) rfl (by omega) ?_
            refine k_iload_n hK ti_22_66 rfl ?_
            refine k_iload_n hK ti_22_67 rfl ?_
            refine k_iast hK (g_many s c) ti_22_68 (dp_isA_t _ (by omega)) (by omega) rfl (by rw [dpl_59 _ (by omega)]; omega) ?_
            refine k_aload_n hK ti_22_69 rfl ?_
            refine k_get hK ti_22_70 ow_22 fd_3_19 (by omega) rfl rfl ?_
            refine k_get hK ti_22_73 ow_22 fd_3_97 (by omega) rfl rfl ?_
            refine k_iload_n hK ti_22_76 rfl ?_
            refine k_iload_n hK ti_22_77 rfl ?_
            refine k_iconst hK ti_22_78 kI_1 ?_
            refine k_iadd hK (z := (nI (g_many s c + 1))) ti_22_79 (nI_add _ _) ?_
            refine k_iast hK c ti_22_80 rfl (by omega) rfl (by rw [dpl_12]; omega) ?_
            refine k_iload_n hK ti_22_81 rfl ?_
            refine k_iconst hK ti_22_82 kI_1 ?_
            refine k_iadd hK (z := (nI (g_many s c + 1))) ti_22_83 (nI_add _ _) ?_
            refine k_ireturn hK ti_22_84 rk_22 mc_22 ms_22 (Nat.le_of_ble_eq_true rfl) (Nat.le_of_ble_eq_true rfl) ?_
            rw [e] at h
            exact h _ ⟨Fr.up (Fr.up (Fr.refl _ _) (by simp only [wC]; omega)) (by simp only [wC]; omega), C_adds hC hl_c hl_w c_21, CL_up (CL_up hN (by simp only [wL_n]; omega)) (by simp only [wL_n]; omega)⟩
          · exact absurd rfl c_44
        · have hp := (frst_some hwi).1
          have e : fc_want s l (nI c) (nI w) = bad 2 1 s l := (by simp only [fc_want, hx_c, hx_w, if_neg hm, hwi])
          refine k_iconst hK ti_22_43 kI_m1 ?_
          refine k_icmp_eq hK ti_22_44 jt_44_13 (fun c_44 => ?_) (fun c_44 => ?_)
          · exact absurd c_44 (nI_nm1 (by omega))
          · refine k_throw hK 1 ti_22_47 ow_22 rfl (by decide) mc_22 ms_22 (by omega) (Nat.le_of_ble_eq_true rfl) (Nat.le_of_ble_eq_true rfl) (Nat.le_of_ble_eq_true rfl) ?_
            rw [e] at h
            exact h M ⟨Fr.refl _ _, hC, hN⟩
      · have e : fc_want s l (nI c) (nI w) = bad 2 1 s l := (by simp only [fc_want, hx_c, hx_w, if_pos (show g_many s c = 5 by omega)])
        refine k_throw hK 1 ti_22_24 ow_22 rfl (by decide) mc_22 ms_22 (by omega) (Nat.le_of_ble_eq_true rfl) (Nat.le_of_ble_eq_true rfl) (Nat.le_of_ble_eq_true rfl) ?_
        rw [e] at h
        exact h M ⟨Fr.refl _ _, hC, hN⟩
    · (have e : fc_want s l (nI c) y = bad 1 0 s l := (by simp only [fc_want, hx_c, c_6]); refine k_leaves hh_22 mc_22 ms_22 (Nat.le_of_ble_eq_true rfl) (Nat.le_of_ble_eq_true rfl) ?_; rw [e] at h; exact h M ⟨Fr.refl _ _, hC, hN⟩)
  · (have e : fc_want s l x y = bad 1 0 s l := (by simp only [fc_want, c_2]); refine k_leaves hh_22 mc_22 ms_22 (Nat.le_of_ble_eq_true rfl) (Nat.le_of_ble_eq_true rfl) ?_; rw [e] at h; exact h M ⟨Fr.refl _ _, hC, hN⟩)

set_option maxRecDepth 100000 in
set_option maxHeartbeats 4000000 in
theorem sp_X3_drop {X : dp_X} {d n : Nat} {M : dp_M} {o : dp_O} {Q : dp_Q} (h65 : 65 ≤ n) {s : GSt} {l : LSt} (x y : Int32) (hC : CG M s) (hN : CLn M l) (hV : WFL s l) (h : ∀ M', CA M M' (fc_drop s l x y) → Q (cres (fc_drop s l x y)) M' o) : dp_run X (d + 6 + 1) 23 [.ref 0, .int x, .int y] n M o Q := by
  apply k_run
  intro K hK
  rw [mL_23]
  show K 0 [some (.ref 0), some (.int x), some (.int y), none] [] n 0 0 M o
  have hA16 := hC.w.1
  have hC6 := hC.w.2.1
  refine k_aload_n hK ti_23_0 rfl ?_
  refine k_iload_n hK ti_23_1 rfl ?_
  refine k_callV hK (as := [.int _]) (st' := []) ti_23_2 ow_23 iv_3_94 mc_23 ms_23 rfl rfl (by omega) (Nat.le_of_ble_eq_true rfl) (Nat.le_of_ble_eq_true rfl) (Nat.le_of_ble_eq_true rfl) (Nat.le_of_ble_eq_true rfl) (by omega) rfl ?_
  refine sp_X3_checkClient (by omega) _ hC (fun c_2 => ?_) (fun c_2 => ?_)
  · obtain ⟨c, hx_c⟩ := is_t c_2
    obtain ⟨hl_c, rfl⟩ := ix_some hx_c (by omega)
    refine k_iload_n hK ti_23_5 rfl ?_
    refine k_callS hK (as := [.int _]) (st' := []) ti_23_6 ow_23 iv_3_41 mc_23 ms_23 rfl rfl (by omega) (Nat.le_of_ble_eq_true rfl) (Nat.le_of_ble_eq_true rfl) (Nat.le_of_ble_eq_true rfl) (Nat.le_of_ble_eq_true rfl) ?_
    refine sp_X3_checkStem (by omega) _ (fun c_6 => ?_) (fun c_6 => ?_)
    · obtain ⟨w, hx_w⟩ := is_t c_6
      obtain ⟨hl_w, rfl⟩ := ix_some hx_w (by omega)
      have hm5 := hC.w.2.2.2.2.2.1 c (by omega)
      refine k_aload_n hK ti_23_9 rfl ?_
      refine k_get hK ti_23_10 ow_23 fd_3_19 (by omega) rfl rfl ?_
      refine k_iload_n hK ti_23_13 rfl ?_
      refine k_iload_n hK ti_23_14 rfl ?_
      refine k_callV hK (as := [.int _, .int _]) (st' := []) ti_23_15 ow_23 iv_3_102 mc_23 ms_23 rfl rfl (by omega) (Nat.le_of_ble_eq_true rfl) (Nat.le_of_ble_eq_true rfl) (Nat.le_of_ble_eq_true rfl) (Nat.le_of_ble_eq_true rfl) (by omega) rfl ?_
      refine sp_X1_placeOf (by omega) c w hC (by omega) (by omega) ?_
      rcases hwi : wsh s c w with _ | p
      · have e : fc_drop s l (nI c) (nI w) = bad 2 1 s l := (by simp only [fc_drop, hx_c, hx_w, hwi])
        refine k_istore_n hK (L' := [some (.ref 0), some (.int _), some (.int _), some (.int _)]) ti_23_18 rfl ?_
        refine k_iload_n hK ti_23_19 rfl ?_
        refine k_iconst hK ti_23_20 kI_m1 ?_
        refine k_icmp_ne hK ti_23_21 jt_21_13 (fun c_21 => ?_) (fun c_21 => ?_)
        · refine k_throw hK 1 ti_23_24 ow_23 rfl (by decide) mc_23 ms_23 (by omega) (Nat.le_of_ble_eq_true rfl) (Nat.le_of_ble_eq_true rfl) (Nat.le_of_ble_eq_true rfl) ?_
          rw [e] at h
          exact h M ⟨Fr.refl _ _, hC, hN⟩
        · exact absurd rfl c_21
      · have hp := (frst_some hwi).1
        have e : fc_drop s l (nI c) (nI w) = ok (nI p) (drp s c p) l := (by simp only [fc_drop, hx_c, hx_w, hwi])
        refine k_istore_n hK (L' := [some (.ref 0), some (.int _), some (.int _), some (.int _)]) ti_23_18 rfl ?_
        refine k_iload_n hK ti_23_19 rfl ?_
        refine k_iconst hK ti_23_20 kI_m1 ?_
        refine k_icmp_ne hK ti_23_21 jt_21_13 (fun c_21 => ?_) (fun c_21 => ?_)
        · exact absurd c_21 (nI_nm1 (by omega))
        · refine k_aload_n hK ti_23_34 rfl ?_
          refine k_get hK ti_23_35 ow_23 fd_3_19 (by omega) rfl rfl ?_
          refine k_get hK ti_23_38 ow_23 fd_3_97 (by omega) rfl rfl ?_
          refine k_iload_n hK ti_23_41 rfl ?_
          refine k_aload_n hK ti_23_42 rfl ?_
          refine k_get hK ti_23_43 ow_23 fd_3_19 (by omega) rfl rfl ?_
          refine k_get hK ti_23_46 ow_23 fd_3_108 (by omega) rfl rfl ?_
          refine k_iload_n hK ti_23_49 rfl ?_
          refine k_aald11 hK c ti_23_50 (by omega) rfl (by omega) ?_
          refine k_aload_n hK ti_23_51 rfl ?_
          refine k_get hK ti_23_52 ow_23 fd_3_19 (by omega) rfl rfl ?_
          refine k_get hK ti_23_55 ow_23 fd_3_97 (by omega) rfl rfl ?_
          refine k_iload_n hK ti_23_58 rfl ?_
          refine k_ialdv (v := (nI (g_many s c))) hK c ti_23_59 rfl (by omega) (by omega) rfl (by rw [dpl_12]; omega) (hC.many c (by omega)) ?_
          refine k_iload_n hK ti_23_60 rfl ?_
          refine k_callS hK (as := [.ref (59 + c), .int _, .int _]) (st' := [.int _, .ref 12]) ti_23_61 ow_23 iv_3_77 mc_23 ms_23 rfl rfl (by omega) (Nat.le_of_ble_eq_true rfl) (Nat.le_of_ble_eq_true rfl) (Nat.le_of_ble_eq_true rfl) (Nat.le_of_ble_eq_true rfl) ?_
          refine sp_X3_removeAt (by omega) (59 + c) (g_many s c) p (dp_isA_t _ (by omega)) (by omega) (by rw [dpl_59 _ (by omega)]; omega) hp (by omega) (fun M2 g1 g2 => ?_)
          have hF2 : Fr wC M M2 := fun b k z => g2 b k (fun y => z (by simp only [wC]; omega))
          have hN2 : CLn M2 l := CL_n_congr (fun b k z => g2 b k (fun y => by simp only [wL_n] at z; omega)) hN
          refine k_iast hK c ti_23_64 rfl (by omega) rfl (by rw [dpl_12]; omega) ?_
          refine k_iload_n hK ti_23_65 rfl ?_
          refine k_ireturn hK ti_23_66 rk_23 mc_23 ms_23 (Nat.le_of_ble_eq_true rfl) (Nat.le_of_ble_eq_true rfl) ?_
          rw [e] at h
          exact h _ ⟨hF2.up (by simp only [wC]; omega), C_drp hC hl_c hp g1 g2, CL_up hN2 (by simp only [wL_n]; omega)⟩
    · (have e : fc_drop s l (nI c) y = bad 1 0 s l := (by simp only [fc_drop, hx_c, c_6]); refine k_leaves hh_23 mc_23 ms_23 (Nat.le_of_ble_eq_true rfl) (Nat.le_of_ble_eq_true rfl) ?_; rw [e] at h; exact h M ⟨Fr.refl _ _, hC, hN⟩)
  · (have e : fc_drop s l x y = bad 1 0 s l := (by simp only [fc_drop, c_2]); refine k_leaves hh_23 mc_23 ms_23 (Nat.le_of_ble_eq_true rfl) (Nat.le_of_ble_eq_true rfl) ?_; rw [e] at h; exact h M ⟨Fr.refl _ _, hC, hN⟩)

set_option maxRecDepth 100000 in
set_option maxHeartbeats 4000000 in
theorem sp_X3_setBar {X : dp_X} {d n : Nat} {M : dp_M} {o : dp_O} {Q : dp_Q} (h65 : 65 ≤ n) {s : GSt} {l : LSt} (x y : Int32) (hC : CG M s) (hN : CLn M l) (hV : WFL s l) (h : ∀ M', CA M M' (fc_setBar s l x y) → Q (cres (fc_setBar s l x y)) M' o) : dp_run X (d + 6 + 1) 24 [.ref 0, .int x, .int y] n M o Q := by
  apply k_run
  intro K hK
  rw [mL_24]
  show K 0 [some (.ref 0), some (.int x), some (.int y), none] [] n 0 0 M o
  have hA16 := hC.w.1
  have hC6 := hC.w.2.1
  refine k_aload_n hK ti_24_0 rfl ?_
  refine k_iload_n hK ti_24_1 rfl ?_
  refine k_callV hK (as := [.int _]) (st' := []) ti_24_2 ow_24 iv_3_94 mc_24 ms_24 rfl rfl (by omega) (Nat.le_of_ble_eq_true rfl) (Nat.le_of_ble_eq_true rfl) (Nat.le_of_ble_eq_true rfl) (Nat.le_of_ble_eq_true rfl) (by omega) rfl ?_
  refine sp_X3_checkClient (by omega) _ hC (fun c_2 => ?_) (fun c_2 => ?_)
  · obtain ⟨c, hx_c⟩ := is_t c_2
    obtain ⟨hl_c, rfl⟩ := ix_some hx_c (by omega)
    refine k_iload_n hK ti_24_5 rfl ?_
    refine k_if_lt hK ti_24_6 jt_6_10 (fun c_6 => ?_) (fun c_6 => ?_)
    · rw [← nI_0] at c_6
      have e : fc_setBar s l (nI c) y = bad 2 2 s l := (by unfold fc_setBar; rw [hx_c]; exact if_neg (by simp [isin, c_6]))
      refine k_throw hK 2 ti_24_16 ow_24 rfl (by decide) mc_24 ms_24 (by omega) (Nat.le_of_ble_eq_true rfl) (Nat.le_of_ble_eq_true rfl) (Nat.le_of_ble_eq_true rfl) ?_
      rw [e] at h
      exact h M ⟨Fr.refl _ _, hC, hN⟩
    · rw [← nI_0] at c_6
      refine k_iload_n hK ti_24_9 rfl ?_
      refine k_sipush hK ti_24_10 kS_999 ?_
      refine k_icmp_le hK ti_24_13 jt_13_13 (fun c_13 => ?_) (fun c_13 => ?_)
      · have e : fc_setBar s l (nI c) y = bad 2 2 s l := (by unfold fc_setBar; rw [hx_c]; exact if_neg (by simp [isin, c_13]))
        refine k_throw hK 2 ti_24_16 ow_24 rfl (by decide) mc_24 ms_24 (by omega) (Nat.le_of_ble_eq_true rfl) (Nat.le_of_ble_eq_true rfl) (Nat.le_of_ble_eq_true rfl) ?_
        rw [e] at h
        exact h M ⟨Fr.refl _ _, hC, hN⟩
      · have hin : isin y (nI 0) (nI 999) = true := by simp [isin, c_6, c_13]
        have e : fc_setBar s l (nI c) y = ok (g_bar s c) (setB s c y) l := (by unfold fc_setBar; rw [hx_c]; exact if_pos hin)
        refine k_aload_n hK ti_24_26 rfl ?_
        refine k_get hK ti_24_27 ow_24 fd_3_19 (by omega) rfl rfl ?_
        refine k_get hK ti_24_30 ow_24 fd_3_115 (by omega) rfl rfl ?_
        refine k_iload_n hK ti_24_33 rfl ?_
        refine k_ialdv (v := (g_bar s c)) hK c ti_24_34 rfl (by omega) (by omega) rfl (by rw [dpl_13]; omega) (hC.bar c (by omega)) ?_
        refine k_istore_n hK (L' := [some (.ref 0), some (.int _), some (.int _), some (.int _)]) ti_24_35 rfl ?_
        refine k_aload_n hK ti_24_36 rfl ?_
        refine k_get hK ti_24_37 ow_24 fd_3_19 (by omega) rfl rfl ?_
        refine k_get hK ti_24_40 ow_24 fd_3_115 (by omega) rfl rfl ?_
        refine k_iload_n hK ti_24_43 rfl ?_
        refine k_iload_n hK ti_24_44 rfl ?_
        refine k_iast hK c ti_24_45 rfl (by omega) rfl (by rw [dpl_13]; omega) ?_
        refine k_iload_n hK ti_24_46 rfl ?_
        refine k_ireturn hK ti_24_47 rk_24 mc_24 ms_24 (Nat.le_of_ble_eq_true rfl) (Nat.le_of_ble_eq_true rfl) ?_
        rw [e] at h
        exact h _ ⟨Fr.up (Fr.refl _ _) (by simp only [wC]; omega), C_setB hC hl_c, CL_up hN (by simp only [wL_n]; omega)⟩
  · (have e : fc_setBar s l x y = bad 1 0 s l := (by simp only [fc_setBar, c_2]); refine k_leaves hh_24 mc_24 ms_24 (Nat.le_of_ble_eq_true rfl) (Nat.le_of_ble_eq_true rfl) ?_; rw [e] at h; exact h M ⟨Fr.refl _ _, hC, hN⟩)

set_option maxRecDepth 100000 in
set_option maxHeartbeats 4000000 in
theorem sp_X3_pay {X : dp_X} {d n : Nat} {M : dp_M} {o : dp_O} {Q : dp_Q} (h65 : 65 ≤ n) {s : GSt} {l : LSt} (x y : Int32) (hC : CG M s) (hN : CLn M l) (hV : WFL s l) (h : ∀ M', CA M M' (fc_pay s l x y) → Q (cres (fc_pay s l x y)) M' o) : dp_run X (d + 6 + 1) 25 [.ref 0, .int x, .int y] n M o Q := by
  apply k_run
  intro K hK
  rw [mL_25]
  show K 0 [some (.ref 0), some (.int x), some (.int y)] [] n 0 0 M o
  have hA16 := hC.w.1
  have hC6 := hC.w.2.1
  refine k_aload_n hK ti_25_0 rfl ?_
  refine k_iload_n hK ti_25_1 rfl ?_
  refine k_callV hK (as := [.int _]) (st' := []) ti_25_2 ow_25 iv_3_94 mc_25 ms_25 rfl rfl (by omega) (Nat.le_of_ble_eq_true rfl) (Nat.le_of_ble_eq_true rfl) (Nat.le_of_ble_eq_true rfl) (Nat.le_of_ble_eq_true rfl) (by omega) rfl ?_
  refine sp_X3_checkClient (by omega) _ hC (fun c_2 => ?_) (fun c_2 => ?_)
  · obtain ⟨c, hx_c⟩ := is_t c_2
    obtain ⟨hl_c, rfl⟩ := ix_some hx_c (by omega)
    refine k_iload_n hK ti_25_5 rfl ?_
    refine k_iconst hK ti_25_6 kI_1 ?_
    refine k_icmp_lt hK ti_25_7 jt_7_10 (fun c_7 => ?_) (fun c_7 => ?_)
    · have e : fc_pay s l (nI c) y = bad 2 2 s l := (by unfold fc_pay; rw [hx_c]; exact if_neg (by simp [isin, c_7]))
      refine k_throw hK 2 ti_25_17 ow_25 rfl (by decide) mc_25 ms_25 (by omega) (Nat.le_of_ble_eq_true rfl) (Nat.le_of_ble_eq_true rfl) (Nat.le_of_ble_eq_true rfl) ?_
      rw [e] at h
      exact h M ⟨Fr.refl _ _, hC, hN⟩
    · refine k_iload_n hK ti_25_10 rfl ?_
      refine k_sipush hK ti_25_11 kS_999 ?_
      refine k_icmp_le hK ti_25_14 jt_14_13 (fun c_14 => ?_) (fun c_14 => ?_)
      · have e : fc_pay s l (nI c) y = bad 2 2 s l := (by unfold fc_pay; rw [hx_c]; exact if_neg (by simp [isin, c_14]))
        refine k_throw hK 2 ti_25_17 ow_25 rfl (by decide) mc_25 ms_25 (by omega) (Nat.le_of_ble_eq_true rfl) (Nat.le_of_ble_eq_true rfl) (Nat.le_of_ble_eq_true rfl) ?_
        rw [e] at h
        exact h M ⟨Fr.refl _ _, hC, hN⟩
      · have hin : isin y (nI 1) (nI 999) = true := by simp [isin, c_7, c_14]
        have e : fc_pay s l (nI c) y = ok (mn (nI 9999) (l_coin l c + y)) s (setC l c (mn (nI 9999) (l_coin l c + y))) := (by unfold fc_pay; rw [hx_c]; exact if_pos hin)
        refine k_aload_n hK ti_25_27 rfl ?_
        refine k_get hK ti_25_28 ow_25 fd_3_26 (by omega) rfl rfl ?_
        refine k_get hK ti_25_31 ow_25 fd_3_91 (by omega) rfl rfl ?_
        refine k_iload_n hK ti_25_34 rfl ?_
        refine k_aload_n hK ti_25_35 rfl ?_
        refine k_get hK ti_25_36 ow_25 fd_3_26 (by omega) rfl rfl ?_
        refine k_get hK ti_25_39 ow_25 fd_3_91 (by omega) rfl rfl ?_
        refine k_iload_n hK ti_25_42 rfl ?_
        refine k_ialdv (v := (l_coin l c)) hK c ti_25_43 rfl (by omega) (by omega) rfl (by rw [dpl_15]; omega) (hN.2.2.1 c (by omega)).1 ?_
        refine k_iload_n hK ti_25_44 rfl ?_
        refine k_iadd hK ti_25_45 rfl ?_
        refine k_sipush hK ti_25_46 kS_9999 ?_
        refine k_minv hK (mn (nI 9999) (l_coin l c + y)) ti_25_49 ow_25 nt_3_120 mc_25 ms_25 (Nat.le_of_ble_eq_true rfl) (Nat.le_of_ble_eq_true rfl) (Nat.le_of_ble_eq_true rfl) mn_min ?_
        refine k_iast hK c ti_25_52 rfl (by omega) rfl (by rw [dpl_15]; omega) ?_
        refine k_aload_n hK ti_25_53 rfl ?_
        refine k_get hK ti_25_54 ow_25 fd_3_26 (by omega) rfl rfl ?_
        refine k_get hK ti_25_57 ow_25 fd_3_91 (by omega) rfl rfl ?_
        refine k_iload_n hK ti_25_60 rfl ?_
        refine k_ialdv (v := (mn (nI 9999) (l_coin l c + y))) hK c ti_25_61 rfl (by omega) (by omega) rfl (by rw [dpl_15]; omega) (dp_up_s _ _ _ _) ?_
        refine k_ireturn hK ti_25_62 rk_25 mc_25 ms_25 (Nat.le_of_ble_eq_true rfl) (Nat.le_of_ble_eq_true rfl) ?_
        rw [e] at h
        exact h _ ⟨Fr.up (Fr.refl _ _) (by simp only [wC]; omega), C_coin hC, CL_setC hN⟩
  · (have e : fc_pay s l x y = bad 1 0 s l := (by simp only [fc_pay, c_2]); refine k_leaves hh_25 mc_25 ms_25 (Nat.le_of_ble_eq_true rfl) (Nat.le_of_ble_eq_true rfl) ?_; rw [e] at h; exact h M ⟨Fr.refl _ _, hC, hN⟩)
