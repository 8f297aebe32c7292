/-! The class: its face, what reads or plays. (written by wip/whole/cls7.py) -/
set_option maxRecDepth 100000 in
set_option maxHeartbeats 4000000 in
theorem sp_X3_told {X : dp_X} {d n : Nat} {M : dp_M} {o : dp_O} {Q : dp_Q} (h65 : 65 ≤ n) {s : GSt} {l : LSt} (x y : Int32) (hC : CG M s) (hN : CLn M l) (hV : WFL s l) (h : ∀ M', CA M M' (fc_told s l x y) → Q (cres (fc_told s l x y)) M' o) : dp_run X (d + 6 + 1) 28 [.ref 0, .int x, .int y] n M o Q := by
  apply k_run
  intro K hK
  rw [mL_28]
  show K 0 [some (.ref 0), some (.int x), some (.int y)] [] n 0 0 M o
  have hA16 := hC.w.1
  have hC6 := hC.w.2.1
  refine k_aload_n hK ti_28_0 rfl ?_
  refine k_iload_n hK ti_28_1 rfl ?_
  refine k_callV hK (as := [.int _]) (st' := []) ti_28_2 ow_28 iv_3_61 mc_28 ms_28 rfl rfl (by omega) (Nat.le_of_ble_eq_true rfl) (Nat.le_of_ble_eq_true rfl) (Nat.le_of_ble_eq_true rfl) (Nat.le_of_ble_eq_true rfl) (by omega) rfl ?_
  refine sp_X3_checkArticle (by omega) _ hC (fun c_2 => ?_) (fun c_2 => ?_)
  · obtain ⟨a, hx_a⟩ := is_t c_2
    obtain ⟨hl_a, rfl⟩ := ix_some hx_a (by omega)
    refine k_iload_n hK ti_28_5 rfl ?_
    refine k_iconst hK ti_28_6 kI_4 ?_
    refine k_callS hK (as := [.int _, .int _]) (st' := []) ti_28_7 ow_28 iv_3_140 mc_28 ms_28 rfl rfl (by omega) (Nat.le_of_ble_eq_true rfl) (Nat.le_of_ble_eq_true rfl) (Nat.le_of_ble_eq_true rfl) (Nat.le_of_ble_eq_true rfl) ?_
    refine sp_X3_checkWhat (by omega) _ 4 (fun c_7 => ?_) (fun c_7 => ?_)
    · obtain ⟨w, hx_w⟩ := is_t c_7
      obtain ⟨hl_w, rfl⟩ := ix_some hx_w (by omega)
      have e : fc_told s l (nI a) (nI w) = ok (aT s l a w) s l := (by simp only [fc_told, hx_a, hx_w])
      refine k_aload_n hK ti_28_10 rfl ?_
      refine k_iload_n hK ti_28_11 rfl ?_
      refine k_iload_n hK ti_28_12 rfl ?_
      refine k_callV hK (as := [.int _, .int _]) (st' := []) ti_28_13 ow_28 iv_3_143 mc_28 ms_28 rfl rfl (by omega) (Nat.le_of_ble_eq_true rfl) (Nat.le_of_ble_eq_true rfl) (Nat.le_of_ble_eq_true rfl) (Nat.le_of_ble_eq_true rfl) (by omega) rfl ?_
      refine sp_X3_tellOfArticle (by omega) a w hC hN hV (by omega) (by omega) ?_
      refine k_ireturn hK ti_28_16 rk_28 mc_28 ms_28 (Nat.le_of_ble_eq_true rfl) (Nat.le_of_ble_eq_true rfl) ?_
      rw [e] at h
      exact h M ⟨Fr.refl _ _, hC, hN⟩
    · (have e : fc_told s l (nI a) y = bad 1 0 s l := (by simp only [fc_told, hx_a, c_7]); refine k_leaves hh_28 mc_28 ms_28 (Nat.le_of_ble_eq_true rfl) (Nat.le_of_ble_eq_true rfl) ?_; rw [e] at h; exact h M ⟨Fr.refl _ _, hC, hN⟩)
  · (have e : fc_told s l x y = bad 1 0 s l := (by simp only [fc_told, c_2]); refine k_leaves hh_28 mc_28 ms_28 (Nat.le_of_ble_eq_true rfl) (Nat.le_of_ble_eq_true rfl) ?_; rw [e] at h; exact h M ⟨Fr.refl _ _, hC, hN⟩)

set_option maxRecDepth 100000 in
set_option maxHeartbeats 4000000 in
theorem sp_X3_about {X : dp_X} {d n : Nat} {M : dp_M} {o : dp_O} {Q : dp_Q} (h65 : 65 ≤ n) {s : GSt} {l : LSt} (x y : Int32) (hC : CG M s) (hN : CLn M l) (hV : WFL s l) (h : ∀ M', CA M M' (fc_about s l x y) → Q (cres (fc_about s l x y)) M' o) : dp_run X (d + 6 + 1) 30 [.ref 0, .int x, .int y] n M o Q := by
  apply k_run
  intro K hK
  rw [mL_30]
  show K 0 [some (.ref 0), some (.int x), some (.int y)] [] n 0 0 M o
  have hA16 := hC.w.1
  have hC6 := hC.w.2.1
  refine k_aload_n hK ti_30_0 rfl ?_
  refine k_iload_n hK ti_30_1 rfl ?_
  refine k_callV hK (as := [.int _]) (st' := []) ti_30_2 ow_30 iv_3_94 mc_30 ms_30 rfl rfl (by omega) (Nat.le_of_ble_eq_true rfl) (Nat.le_of_ble_eq_true rfl) (Nat.le_of_ble_eq_true rfl) (Nat.le_of_ble_eq_true rfl) (by omega) rfl ?_
  refine sp_X3_checkClient (by omega) _ hC (fun c_2 => ?_) (fun c_2 => ?_)
  · obtain ⟨c, hx_c⟩ := is_t c_2
    obtain ⟨hl_c, rfl⟩ := ix_some hx_c (by omega)
    refine k_iload_n hK ti_30_5 rfl ?_
    refine k_bipush hK ti_30_6 kB_6 ?_
    refine k_callS hK (as := [.int _, .int _]) (st' := []) ti_30_8 ow_30 iv_3_140 mc_30 ms_30 rfl rfl (by omega) (Nat.le_of_ble_eq_true rfl) (Nat.le_of_ble_eq_true rfl) (Nat.le_of_ble_eq_true rfl) (Nat.le_of_ble_eq_true rfl) ?_
    refine sp_X3_checkWhat (by omega) _ 6 (fun c_8 => ?_) (fun c_8 => ?_)
    · obtain ⟨w, hx_w⟩ := is_t c_8
      obtain ⟨hl_w, rfl⟩ := ix_some hx_w (by omega)
      have e : fc_about s l (nI c) (nI w) = ok (cT s l c w) s l := (by simp only [fc_about, hx_c, hx_w])
      refine k_aload_n hK ti_30_11 rfl ?_
      refine k_iload_n hK ti_30_12 rfl ?_
      refine k_iload_n hK ti_30_13 rfl ?_
      refine k_callV hK (as := [.int _, .int _]) (st' := []) ti_30_14 ow_30 iv_3_146 mc_30 ms_30 rfl rfl (by omega) (Nat.le_of_ble_eq_true rfl) (Nat.le_of_ble_eq_true rfl) (Nat.le_of_ble_eq_true rfl) (Nat.le_of_ble_eq_true rfl) (by omega) rfl ?_
      refine sp_X3_tellOfClient (by omega) c w hC hN hV (by omega) (by omega) ?_
      refine k_ireturn hK ti_30_17 rk_30 mc_30 ms_30 (Nat.le_of_ble_eq_true rfl) (Nat.le_of_ble_eq_true rfl) ?_
      rw [e] at h
      exact h M ⟨Fr.refl _ _, hC, hN⟩
    · (have e : fc_about s l (nI c) y = bad 1 0 s l := (by simp only [fc_about, hx_c, c_8]); refine k_leaves hh_30 mc_30 ms_30 (Nat.le_of_ble_eq_true rfl) (Nat.le_of_ble_eq_true rfl) ?_; rw [e] at h; exact h M ⟨Fr.refl _ _, hC, hN⟩)
  · (have e : fc_about s l x y = bad 1 0 s l := (by simp only [fc_about, c_2]); refine k_leaves hh_30 mc_30 ms_30 (Nat.le_of_ble_eq_true rfl) (Nat.le_of_ble_eq_true rfl) ?_; rw [e] at h; exact h M ⟨Fr.refl _ _, hC, hN⟩)

set_option maxRecDepth 100000 in
set_option maxHeartbeats 4000000 in
theorem sp_X3_word {X : dp_X} {d n : Nat} {M : dp_M} {o : dp_O} {Q : dp_Q} (h65 : 65 ≤ n) {s : GSt} {l : LSt} (x y : Int32) (hC : CG M s) (hN : CLn M l) (hV : WFL s l) (h : ∀ M', CA M M' (fc_word s l x y) → Q (cres (fc_word s l x y)) M' o) : dp_run X (d + 6 + 1) 29 [.ref 0, .int x, .int y] n M o Q := by
  apply k_run
  intro K hK
  rw [mL_29]
  show K 0 [some (.ref 0), some (.int x), some (.int y)] [] n 0 0 M o
  have hA16 := hC.w.1
  have hC6 := hC.w.2.1
  refine k_aload_n hK ti_29_0 rfl ?_
  refine k_iload_n hK ti_29_1 rfl ?_
  refine k_callV hK (as := [.int _]) (st' := []) ti_29_2 ow_29 iv_3_61 mc_29 ms_29 rfl rfl (by omega) (Nat.le_of_ble_eq_true rfl) (Nat.le_of_ble_eq_true rfl) (Nat.le_of_ble_eq_true rfl) (Nat.le_of_ble_eq_true rfl) (by omega) rfl ?_
  refine sp_X3_checkArticle (by omega) _ hC (fun c_2 => ?_) (fun c_2 => ?_)
  · obtain ⟨a, hx_a⟩ := is_t c_2
    obtain ⟨hl_a, rfl⟩ := ix_some hx_a (by omega)
    have hlen := hC.w.2.2.2.1 a (by omega)
    refine k_iload_n hK ti_29_5 rfl ?_
    refine k_aload_n hK ti_29_6 rfl ?_
    refine k_get hK ti_29_7 ow_29 fd_3_10 (by omega) rfl rfl ?_
    refine k_get hK ti_29_10 ow_29 fd_3_64 (by omega) rfl rfl ?_
    refine k_iload_n hK ti_29_13 rfl ?_
    refine k_ialdv (v := (nI (g_len s a))) hK a ti_29_14 rfl (by omega) (by omega) rfl (by rw [dpl_8]; omega) (hC.len a (by omega)) ?_
    refine k_callS hK (as := [.int _, .int _]) (st' := []) ti_29_15 ow_29 iv_3_73 mc_29 ms_29 rfl rfl (by omega) (Nat.le_of_ble_eq_true rfl) (Nat.le_of_ble_eq_true rfl) (Nat.le_of_ble_eq_true rfl) (Nat.le_of_ble_eq_true rfl) ?_
    refine sp_X3_checkPlace (by omega) _ (g_len s a) (fun c_15 => ?_) (fun c_15 => ?_)
    · obtain ⟨p, hx_p⟩ := is_t c_15
      obtain ⟨hl_p, rfl⟩ := ix_some hx_p (by omega)
      have e : fc_word s l (nI a) (nI p) = ok (nI (g_wd s a p)) s l := (by simp only [fc_word, hx_a, hx_p])
      refine k_aload_n hK ti_29_18 rfl ?_
      refine k_get hK ti_29_19 ow_29 fd_3_10 (by omega) rfl rfl ?_
      refine k_get hK ti_29_22 ow_29 fd_3_69 (by omega) rfl rfl ?_
      refine k_iload_n hK ti_29_25 rfl ?_
      refine k_aald7 hK a ti_29_26 (by omega) rfl (by omega) ?_
      refine k_iload_n hK ti_29_27 rfl ?_
      refine k_ialdv (v := (nI (g_wd s a p))) hK p ti_29_28 (dp_isA_t _ (by omega)) (by omega) (by omega) rfl (by rw [dpl_27 _ (by omega)]; omega) (hC.wd a p (by omega) (by omega)) ?_
      refine k_ireturn hK ti_29_29 rk_29 mc_29 ms_29 (Nat.le_of_ble_eq_true rfl) (Nat.le_of_ble_eq_true rfl) ?_
      rw [e] at h
      exact h M ⟨Fr.refl _ _, hC, hN⟩
    · (have e : fc_word s l (nI a) y = bad 1 0 s l := (by simp only [fc_word, hx_a, c_15]); refine k_leaves hh_29 mc_29 ms_29 (Nat.le_of_ble_eq_true rfl) (Nat.le_of_ble_eq_true rfl) ?_; rw [e] at h; exact h M ⟨Fr.refl _ _, hC, hN⟩)
  · (have e : fc_word s l x y = bad 1 0 s l := (by simp only [fc_word, c_2]); refine k_leaves hh_29 mc_29 ms_29 (Nat.le_of_ble_eq_true rfl) (Nat.le_of_ble_eq_true rfl) ?_; rw [e] at h; exact h M ⟨Fr.refl _ _, hC, hN⟩)

set_option maxRecDepth 100000 in
set_option maxHeartbeats 4000000 in
theorem sp_X3_stem {X : dp_X} {d n : Nat} {M : dp_M} {o : dp_O} {Q : dp_Q} (h65 : 65 ≤ n) {s : GSt} {l : LSt} (x y : Int32) (hC : CG M s) (hN : CLn M l) (hV : WFL s l) (h : ∀ M', CA M M' (fc_stem s l x y) → Q (cres (fc_stem s l x y)) M' o) : dp_run X (d + 6 + 1) 31 [.ref 0, .int x, .int y] n M o Q := by
  apply k_run
  intro K hK
  rw [mL_31]
  show K 0 [some (.ref 0), some (.int x), some (.int y)] [] n 0 0 M o
  have hA16 := hC.w.1
  have hC6 := hC.w.2.1
  refine k_aload_n hK ti_31_0 rfl ?_
  refine k_iload_n hK ti_31_1 rfl ?_
  refine k_callV hK (as := [.int _]) (st' := []) ti_31_2 ow_31 iv_3_94 mc_31 ms_31 rfl rfl (by omega) (Nat.le_of_ble_eq_true rfl) (Nat.le_of_ble_eq_true rfl) (Nat.le_of_ble_eq_true rfl) (Nat.le_of_ble_eq_true rfl) (by omega) rfl ?_
  refine sp_X3_checkClient (by omega) _ hC (fun c_2 => ?_) (fun c_2 => ?_)
  · obtain ⟨c, hx_c⟩ := is_t c_2
    obtain ⟨hl_c, rfl⟩ := ix_some hx_c (by omega)
    have hm5 := hC.w.2.2.2.2.2.1 c (by omega)
    refine k_iload_n hK ti_31_5 rfl ?_
    refine k_aload_n hK ti_31_6 rfl ?_
    refine k_get hK ti_31_7 ow_31 fd_3_19 (by omega) rfl rfl ?_
    refine k_get hK ti_31_10 ow_31 fd_3_97 (by omega) rfl rfl ?_
    refine k_iload_n hK ti_31_13 rfl ?_
    refine k_ialdv (v := (nI (g_many s c))) hK c ti_31_14 rfl (by omega) (by omega) rfl (by rw [dpl_12]; omega) (hC.many c (by omega)) ?_
    refine k_callS hK (as := [.int _, .int _]) (st' := []) ti_31_15 ow_31 iv_3_73 mc_31 ms_31 rfl rfl (by omega) (Nat.le_of_ble_eq_true rfl) (Nat.le_of_ble_eq_true rfl) (Nat.le_of_ble_eq_true rfl) (Nat.le_of_ble_eq_true rfl) ?_
    refine sp_X3_checkPlace (by omega) _ (g_many s c) (fun c_15 => ?_) (fun c_15 => ?_)
    · obtain ⟨p, hx_p⟩ := is_t c_15
      obtain ⟨hl_p, rfl⟩ := ix_some hx_p (by omega)
      have e : fc_stem s l (nI c) (nI p) = ok (nI (g_wish s c p)) s l := (by simp only [fc_stem, hx_c, hx_p])
      refine k_aload_n hK ti_31_18 rfl ?_
      refine k_get hK ti_31_19 ow_31 fd_3_19 (by omega) rfl rfl ?_
      refine k_get hK ti_31_22 ow_31 fd_3_108 (by omega) rfl rfl ?_
      refine k_iload_n hK ti_31_25 rfl ?_
      refine k_aald11 hK c ti_31_26 (by omega) rfl (by omega) ?_
      refine k_iload_n hK ti_31_27 rfl ?_
      refine k_ialdv (v := (nI (g_wish s c p))) hK p ti_31_28 (dp_isA_t _ (by omega)) (by omega) (by omega) rfl (by rw [dpl_59 _ (by omega)]; omega) (hC.wish c p (by omega) (by omega)) ?_
      refine k_ireturn hK ti_31_29 rk_31 mc_31 ms_31 (Nat.le_of_ble_eq_true rfl) (Nat.le_of_ble_eq_true rfl) ?_
      rw [e] at h
      exact h M ⟨Fr.refl _ _, hC, hN⟩
    · (have e : fc_stem s l (nI c) y = bad 1 0 s l := (by simp only [fc_stem, hx_c, c_15]); refine k_leaves hh_31 mc_31 ms_31 (Nat.le_of_ble_eq_true rfl) (Nat.le_of_ble_eq_true rfl) ?_; rw [e] at h; exact h M ⟨Fr.refl _ _, hC, hN⟩)
  · (have e : fc_stem s l x y = bad 1 0 s l := (by simp only [fc_stem, c_2]); refine k_leaves hh_31 mc_31 ms_31 (Nat.le_of_ble_eq_true rfl) (Nat.le_of_ble_eq_true rfl) ?_; rw [e] at h; exact h M ⟨Fr.refl _ _, hC, hN⟩)

set_option maxRecDepth 100000 in
set_option maxHeartbeats 4000000 in
theorem sp_X3_count {X : dp_X} {d n : Nat} {M : dp_M} {o : dp_O} {Q : dp_Q} (h65 : 65 ≤ n) {s : GSt} {l : LSt} (x : Int32) (hC : CG M s) (hN : CLn M l) (hV : WFL s l) (h : ∀ M', CA M M' (fc_count s l x) → Q (cres (fc_count s l x)) M' o) : dp_run X (d + 6 + 1) 32 [.ref 0, .int x] n M o Q := by
  apply k_run
  intro K hK
  rw [mL_32]
  show K 0 [some (.ref 0), some (.int x)] [] n 0 0 M o
  have hA16 := hC.w.1
  have hC6 := hC.w.2.1
  refine k_iload_n hK ti_32_0 rfl ?_
  refine k_bipush hK ti_32_1 kB_7 ?_
  refine k_callS hK (as := [.int _, .int _]) (st' := []) ti_32_3 ow_32 iv_3_140 mc_32 ms_32 rfl rfl (by omega) (Nat.le_of_ble_eq_true rfl) (Nat.le_of_ble_eq_true rfl) (Nat.le_of_ble_eq_true rfl) (Nat.le_of_ble_eq_true rfl) ?_
  refine sp_X3_checkWhat (by omega) _ 7 (fun c_3 => ?_) (fun c_3 => ?_)
  · obtain ⟨w, hx_w⟩ := is_t c_3
    obtain ⟨hl_w, rfl⟩ := ix_some hx_w (by omega)
    have e : fc_count s l (nI w) = ok (nT s l w) s l := (by simp only [fc_count, hx_w])
    refine k_aload_n hK ti_32_6 rfl ?_
    refine k_iload_n hK ti_32_7 rfl ?_
    refine k_callV hK (as := [.int _]) (st' := []) ti_32_8 ow_32 iv_3_149 mc_32 ms_32 rfl rfl (by omega) (Nat.le_of_ble_eq_true rfl) (Nat.le_of_ble_eq_true rfl) (Nat.le_of_ble_eq_true rfl) (Nat.le_of_ble_eq_true rfl) (by omega) rfl ?_
    refine sp_X3_tellOfAll (by omega) w hC hN hV (by omega) ?_
    refine k_ireturn hK ti_32_11 rk_32 mc_32 ms_32 (Nat.le_of_ble_eq_true rfl) (Nat.le_of_ble_eq_true rfl) ?_
    rw [e] at h
    exact h M ⟨Fr.refl _ _, hC, hN⟩
  · (have e : fc_count s l x = bad 1 0 s l := (by simp only [fc_count, c_3]); refine k_leaves hh_32 mc_32 ms_32 (Nat.le_of_ble_eq_true rfl) (Nat.le_of_ble_eq_true rfl) ?_; rw [e] at h; exact h M ⟨Fr.refl _ _, hC, hN⟩)

set_option maxRecDepth 100000 in
set_option maxHeartbeats 4000000 in
theorem sp_X3_rarity {X : dp_X} {d n : Nat} {M : dp_M} {o : dp_O} {Q : dp_Q} (h65 : 65 ≤ n) {s : GSt} {l : LSt} (x : Int32) (hC : CG M s) (hN : CLn M l) (hV : WFL s l) (h : ∀ M', CA M M' (fc_rarity s l x) → Q (cres (fc_rarity s l x)) M' o) : dp_run X (d + 6 + 1) 33 [.ref 0, .int x] n M o Q := by
  apply k_run
  intro K hK
  rw [mL_33]
  show K 0 [some (.ref 0), some (.int x)] [] n 0 0 M o
  have hA16 := hC.w.1
  have hC6 := hC.w.2.1
  refine k_iload_n hK ti_33_0 rfl ?_
  refine k_callS hK (as := [.int _]) (st' := []) ti_33_1 ow_33 iv_3_41 mc_33 ms_33 rfl rfl (by omega) (Nat.le_of_ble_eq_true rfl) (Nat.le_of_ble_eq_true rfl) (Nat.le_of_ble_eq_true rfl) (Nat.le_of_ble_eq_true rfl) ?_
  refine sp_X3_checkStem (by omega) _ (fun c_1 => ?_) (fun c_1 => ?_)
  · obtain ⟨w, hx_w⟩ := is_t c_1
    obtain ⟨hl_w, rfl⟩ := ix_some hx_w (by omega)
    have e : fc_rarity s l (nI w) = ok (nI (rar s w)) s l := (by simp only [fc_rarity, hx_w])
    refine k_aload_n hK ti_33_4 rfl ?_
    refine k_get hK ti_33_5 ow_33 fd_3_10 (by omega) rfl rfl ?_
    refine k_iload_n hK ti_33_8 rfl ?_
    refine k_callV hK (as := [.int _]) (st' := []) ti_33_9 ow_33 iv_3_153 mc_33 ms_33 rfl rfl (by omega) (Nat.le_of_ble_eq_true rfl) (Nat.le_of_ble_eq_true rfl) (Nat.le_of_ble_eq_true rfl) (Nat.le_of_ble_eq_true rfl) (by omega) rfl ?_
    refine sp_X2_rarityOf (by omega) w hC (by omega) ?_
    refine k_ireturn hK ti_33_12 rk_33 mc_33 ms_33 (Nat.le_of_ble_eq_true rfl) (Nat.le_of_ble_eq_true rfl) ?_
    rw [e] at h
    exact h M ⟨Fr.refl _ _, hC, hN⟩
  · (have e : fc_rarity s l x = bad 1 0 s l := (by simp only [fc_rarity, c_1]); refine k_leaves hh_33 mc_33 ms_33 (Nat.le_of_ble_eq_true rfl) (Nat.le_of_ble_eq_true rfl) ?_; rw [e] at h; exact h M ⟨Fr.refl _ _, hC, hN⟩)

set_option maxRecDepth 100000 in
set_option maxHeartbeats 4000000 in
theorem sp_X3_score {X : dp_X} {d n : Nat} {M : dp_M} {o : dp_O} {Q : dp_Q} (h65 : 65 ≤ n) {s : GSt} {l : LSt} (x y : Int32) (hC : CG M s) (hN : CLn M l) (hV : WFL s l) (h : ∀ M', CA M M' (fc_score s l x y) → Q (cres (fc_score s l x y)) M' o) : dp_run X (d + 6 + 1) 34 [.ref 0, .int x, .int y] n M o Q := by
  apply k_run
  intro K hK
  rw [mL_34]
  show K 0 [some (.ref 0), some (.int x), some (.int y)] [] n 0 0 M o
  have hA16 := hC.w.1
  have hC6 := hC.w.2.1
  refine k_aload_n hK ti_34_0 rfl ?_
  refine k_iload_n hK ti_34_1 rfl ?_
  refine k_callV hK (as := [.int _]) (st' := []) ti_34_2 ow_34 iv_3_94 mc_34 ms_34 rfl rfl (by omega) (Nat.le_of_ble_eq_true rfl) (Nat.le_of_ble_eq_true rfl) (Nat.le_of_ble_eq_true rfl) (Nat.le_of_ble_eq_true rfl) (by omega) rfl ?_
  refine sp_X3_checkClient (by omega) _ hC (fun c_2 => ?_) (fun c_2 => ?_)
  · obtain ⟨c, hx_c⟩ := is_t c_2
    obtain ⟨hl_c, rfl⟩ := ix_some hx_c (by omega)
    refine k_aload_n hK ti_34_5 rfl ?_
    refine k_iload_n hK ti_34_6 rfl ?_
    refine k_callV hK (as := [.int _]) (st' := []) ti_34_7 ow_34 iv_3_61 mc_34 ms_34 rfl rfl (by omega) (Nat.le_of_ble_eq_true rfl) (Nat.le_of_ble_eq_true rfl) (Nat.le_of_ble_eq_true rfl) (Nat.le_of_ble_eq_true rfl) (by omega) rfl ?_
    refine sp_X3_checkArticle (by omega) _ hC (fun c_7 => ?_) (fun c_7 => ?_)
    · obtain ⟨a, hx_a⟩ := is_t c_7
      obtain ⟨hl_a, rfl⟩ := ix_some hx_a (by omega)
      have e : fc_score s l (nI c) (nI a) = ok (sc s l c a) s l := (by simp only [fc_score, hx_c, hx_a])
      refine k_aload_n hK ti_34_10 rfl ?_
      refine k_aload_n hK ti_34_11 rfl ?_
      refine k_get hK ti_34_12 ow_34 fd_3_26 (by omega) rfl rfl ?_
      refine k_iload_n hK ti_34_15 rfl ?_
      refine k_iload_n hK ti_34_16 rfl ?_
      refine k_callV hK (as := [.ref 3, .int _, .int _]) (st' := []) ti_34_17 ow_34 iv_3_156 mc_34 ms_34 rfl rfl (by omega) (Nat.le_of_ble_eq_true rfl) (Nat.le_of_ble_eq_true rfl) (Nat.le_of_ble_eq_true rfl) (Nat.le_of_ble_eq_true rfl) (by omega) rfl ?_
      refine sp_X3_scoreFor_n (by omega) c a hC hN (by omega) (by omega) ?_
      refine k_ireturn hK ti_34_20 rk_34 mc_34 ms_34 (Nat.le_of_ble_eq_true rfl) (Nat.le_of_ble_eq_true rfl) ?_
      rw [e] at h
      exact h M ⟨Fr.refl _ _, hC, hN⟩
    · (have e : fc_score s l (nI c) y = bad 1 0 s l := (by simp only [fc_score, hx_c, c_7]); refine k_leaves hh_34 mc_34 ms_34 (Nat.le_of_ble_eq_true rfl) (Nat.le_of_ble_eq_true rfl) ?_; rw [e] at h; exact h M ⟨Fr.refl _ _, hC, hN⟩)
  · (have e : fc_score s l x y = bad 1 0 s l := (by simp only [fc_score, c_2]); refine k_leaves hh_34 mc_34 ms_34 (Nat.le_of_ble_eq_true rfl) (Nat.le_of_ble_eq_true rfl) ?_; rw [e] at h; exact h M ⟨Fr.refl _ _, hC, hN⟩)

set_option maxRecDepth 100000 in
set_option maxHeartbeats 4000000 in
theorem sp_X3_fit {X : dp_X} {d n : Nat} {M : dp_M} {o : dp_O} {Q : dp_Q} (h65 : 65 ≤ n) {s : GSt} {l : LSt} (x y : Int32) (hC : CG M s) (hN : CLn M l) (hV : WFL s l) (h : ∀ M', CA M M' (fc_fit s l x y) → Q (cres (fc_fit s l x y)) M' o) : dp_run X (d + 6 + 1) 35 [.ref 0, .int x, .int y] n M o Q := by
  apply k_run
  intro K hK
  rw [mL_35]
  show K 0 [some (.ref 0), some (.int x), some (.int y)] [] n 0 0 M o
  have hA16 := hC.w.1
  have hC6 := hC.w.2.1
  refine k_aload_n hK ti_35_0 rfl ?_
  refine k_iload_n hK ti_35_1 rfl ?_
  refine k_callV hK (as := [.int _]) (st' := []) ti_35_2 ow_35 iv_3_94 mc_35 ms_35 rfl rfl (by omega) (Nat.le_of_ble_eq_true rfl) (Nat.le_of_ble_eq_true rfl) (Nat.le_of_ble_eq_true rfl) (Nat.le_of_ble_eq_true rfl) (by omega) rfl ?_
  refine sp_X3_checkClient (by omega) _ hC (fun c_2 => ?_) (fun c_2 => ?_)
  · obtain ⟨c, hx_c⟩ := is_t c_2
    obtain ⟨hl_c, rfl⟩ := ix_some hx_c (by omega)
    have hfts : fts s l c ≤ g_nA s := cnt_le _ _
    refine k_iload_n hK ti_35_5 rfl ?_
    refine k_aload_n hK ti_35_6 rfl ?_
    refine k_iload_n hK ti_35_7 rfl ?_
    refine k_callV hK (as := [.int _]) (st' := [.int _]) ti_35_8 ow_35 iv_3_160 mc_35 ms_35 rfl rfl (by omega) (Nat.le_of_ble_eq_true rfl) (Nat.le_of_ble_eq_true rfl) (Nat.le_of_ble_eq_true rfl) (Nat.le_of_ble_eq_true rfl) (by omega) rfl ?_
    refine sp_X3_fitArticles (by omega) c hC hN (by omega) ?_
    refine k_callS hK (as := [.int _, .int _]) (st' := []) ti_35_11 ow_35 iv_3_73 mc_35 ms_35 rfl rfl (by omega) (Nat.le_of_ble_eq_true rfl) (Nat.le_of_ble_eq_true rfl) (Nat.le_of_ble_eq_true rfl) (Nat.le_of_ble_eq_true rfl) ?_
    refine sp_X3_checkPlace (by omega) _ (fts s l c) (fun c_11 => ?_) (fun c_11 => ?_)
    · obtain ⟨p, hx_p⟩ := is_t c_11
      obtain ⟨hl_p, rfl⟩ := ix_some hx_p (by omega)
      have e : fc_fit s l (nI c) (nI p) = ok (oI (fA s l c p)) s l := (by simp only [fc_fit, hx_c, hx_p])
      refine k_aload_n hK ti_35_14 rfl ?_
      refine k_iload_n hK ti_35_15 rfl ?_
      refine k_iload_n hK ti_35_16 rfl ?_
      refine k_callV hK (as := [.int _, .int _]) (st' := []) ti_35_17 ow_35 iv_3_163 mc_35 ms_35 rfl rfl (by omega) (Nat.le_of_ble_eq_true rfl) (Nat.le_of_ble_eq_true rfl) (Nat.le_of_ble_eq_true rfl) (Nat.le_of_ble_eq_true rfl) (by omega) rfl ?_
      refine sp_X3_fitArticleAt (by omega) c p hC hN (by omega) (by omega) ?_
      refine k_ireturn hK ti_35_20 rk_35 mc_35 ms_35 (Nat.le_of_ble_eq_true rfl) (Nat.le_of_ble_eq_true rfl) ?_
      rw [e] at h
      exact h M ⟨Fr.refl _ _, hC, hN⟩
    · (have e : fc_fit s l (nI c) y = bad 1 0 s l := (by simp only [fc_fit, hx_c, c_11]); refine k_leaves hh_35 mc_35 ms_35 (Nat.le_of_ble_eq_true rfl) (Nat.le_of_ble_eq_true rfl) ?_; rw [e] at h; exact h M ⟨Fr.refl _ _, hC, hN⟩)
  · (have e : fc_fit s l x y = bad 1 0 s l := (by simp only [fc_fit, c_2]); refine k_leaves hh_35 mc_35 ms_35 (Nat.le_of_ble_eq_true rfl) (Nat.le_of_ble_eq_true rfl) ?_; rw [e] at h; exact h M ⟨Fr.refl _ _, hC, hN⟩)


set_option maxRecDepth 100000 in
set_option maxHeartbeats 4000000 in
theorem sp_X3_send {X : dp_X} {d n : Nat} {M : dp_M} {o : dp_O} {Q : dp_Q} (h65 : 65 ≤ n) {s : GSt} {l : LSt} (x : Int32) (hC : CG M s) (hN : CLn M l) (hV : WFL s l) (h : ∀ M', CA M M' (fc_send s l x) → Q (cres (fc_send s l x)) M' o) : dp_run X (d + 6 + 1) 26 [.ref 0, .int x] n M o Q := by
  apply k_run
  intro K hK
  rw [mL_26]
  show K 0 [some (.ref 0), some (.int x)] [] n 0 0 M o
  have hA16 := hC.w.1
  have hC6 := hC.w.2.1
  refine k_aload_n hK ti_26_0 rfl ?_
  refine k_iload_n hK ti_26_1 rfl ?_
  refine k_callV hK (as := [.int _]) (st' := []) ti_26_2 ow_26 iv_3_94 mc_26 ms_26 rfl rfl (by omega) (Nat.le_of_ble_eq_true rfl) (Nat.le_of_ble_eq_true rfl) (Nat.le_of_ble_eq_true rfl) (Nat.le_of_ble_eq_true rfl) (by omega) rfl ?_
  refine sp_X3_checkClient (by omega) _ hC (fun c_2 => ?_) (fun c_2 => ?_)
  · obtain ⟨c, hx_c⟩ := is_t c_2
    obtain ⟨hl_c, rfl⟩ := ix_some hx_c (by omega)
    have e : fc_send s l (nI c) = ok (oI (snd1 s l c)) s (sendL s l c) := (by simp only [fc_send, hx_c])
    refine k_aload_n hK ti_26_5 rfl ?_
    refine k_aload_n hK ti_26_6 rfl ?_
    refine k_get hK ti_26_7 ow_26 fd_3_26 (by omega) rfl rfl ?_
    refine k_iload_n hK ti_26_10 rfl ?_
    refine k_callV hK (as := [.ref 3, .int _]) (st' := []) ti_26_11 ow_26 iv_3_125 mc_26 ms_26 rfl rfl (by omega) (Nat.le_of_ble_eq_true rfl) (Nat.le_of_ble_eq_true rfl) (Nat.le_of_ble_eq_true rfl) (Nat.le_of_ble_eq_true rfl) (by omega) rfl ?_
    refine sp_X3_sendTo_n (by omega) c hC hN (by omega) (fun M2 hF hN2 => ?_)
    refine k_ireturn hK ti_26_14 rk_26 mc_26 ms_26 (Nat.le_of_ble_eq_true rfl) (Nat.le_of_ble_eq_true rfl) ?_
    rw [e] at h
    exact h _ ⟨hF.n, hC.fr_n hF, hN2⟩
  · (have e : fc_send s l x = bad 1 0 s l := (by simp only [fc_send, c_2]); refine k_leaves hh_26 mc_26 ms_26 (Nat.le_of_ble_eq_true rfl) (Nat.le_of_ble_eq_true rfl) ?_; rw [e] at h; exact h M ⟨Fr.refl _ _, hC, hN⟩)

set_option maxRecDepth 100000 in
set_option maxHeartbeats 4000000 in
theorem sp_X3_pass {X : dp_X} {d n : Nat} {M : dp_M} {o : dp_O} {Q : dp_Q} (h65 : 65 ≤ n) {s : GSt} {l : LSt} (x : Int32) (hC : CG M s) (hN : CLn M l) (hV : WFL s l) (h : ∀ M', CA M M' (fc_pass s l x) → Q (cres (fc_pass s l x)) M' o) : dp_run X (d + 6 + 1) 27 [.ref 0, .int x] n M o Q := by
  apply k_run
  intro K hK
  rw [mL_27]
  show K 0 [some (.ref 0), some (.int x), none] [] n 0 0 M o
  have hA16 := hC.w.1
  have hC6 := hC.w.2.1
  refine k_iload_n hK ti_27_0 rfl ?_
  refine k_callS hK (as := [.int _]) (st' := []) ti_27_1 ow_27 iv_3_129 mc_27 ms_27 rfl rfl (by omega) (Nat.le_of_ble_eq_true rfl) (Nat.le_of_ble_eq_true rfl) (Nat.le_of_ble_eq_true rfl) (Nat.le_of_ble_eq_true rfl) ?_
  refine sp_X3_checkRounds (by omega) _ (fun c_1 => ?_) (fun c_1 => ?_)
  · obtain ⟨k, hl1_k, hl_k, rfl⟩ := isin_n c_1 (by decide) (by decide)
    have hcl_k := nI_clamp (show k < 2 ^ 31 by omega)
    have e : fc_pass s l (nI k) = ok (nI (rdsn s l k)) s (roundsL s l k) := (by unfold fc_pass; simp only [c_1, hcl_k] <;> rfl)
    refine k_aload_n hK ti_27_4 rfl ?_
    refine k_get hK ti_27_5 ow_27 fd_3_26 (by omega) rfl rfl ?_
    refine k_callV hK (as := []) (st' := []) ti_27_8 ow_27 iv_3_132 mc_27 ms_27 rfl rfl (by omega) (Nat.le_of_ble_eq_true rfl) (Nat.le_of_ble_eq_true rfl) (Nat.le_of_ble_eq_true rfl) (Nat.le_of_ble_eq_true rfl) (by omega) rfl ?_
    refine sp_X0_sentInAll (by omega) hC hN hV ?_
    refine k_istore_n hK (L' := [some (.ref 0), some (.int _), some (.int _)]) ti_27_11 rfl ?_
    refine k_aload_n hK ti_27_12 rfl ?_
    refine k_aload_n hK ti_27_13 rfl ?_
    refine k_get hK ti_27_14 ow_27 fd_3_26 (by omega) rfl rfl ?_
    refine k_iload_n hK ti_27_17 rfl ?_
    refine k_callV hK (as := [.ref 3, .int _]) (st' := []) ti_27_18 ow_27 iv_3_136 mc_27 ms_27 rfl rfl (by omega) (Nat.le_of_ble_eq_true rfl) (Nat.le_of_ble_eq_true rfl) (Nat.le_of_ble_eq_true rfl) (Nat.le_of_ble_eq_true rfl) (by omega) rfl ?_
    refine sp_X3_playRounds_n (by omega) k hC hN (by omega) (fun M2 hF hN2 => ?_)
    have hC2 := hC.fr_n hF
    have hV2 := hV.rounds k
    have e4 := sntA_rounds (s := s) (l := l) k
    refine k_aload_n hK ti_27_21 rfl ?_
    refine k_get hK ti_27_22 ow_27 fd_3_26 (by omega) rfl rfl ?_
    refine k_callV hK (as := []) (st' := []) ti_27_25 ow_27 iv_3_132 mc_27 ms_27 rfl rfl (by omega) (Nat.le_of_ble_eq_true rfl) (Nat.le_of_ble_eq_true rfl) (Nat.le_of_ble_eq_true rfl) (Nat.le_of_ble_eq_true rfl) (by omega) rfl ?_
    refine sp_X0_sentInAll (by omega) hC2 hN2 hV2 ?_
    refine k_iload_n hK ti_27_28 rfl ?_
    refine k_isub hK (z := (nI (rdsn s l k))) ti_27_29 (by rw [e4, pk_sub (by omega)]; exact congrArg nI (by omega)) ?_
    refine k_ireturn hK ti_27_30 rk_27 mc_27 ms_27 (Nat.le_of_ble_eq_true rfl) (Nat.le_of_ble_eq_true rfl) ?_
    rw [e] at h
    exact h _ ⟨hF.n, hC2, hN2⟩
  · (have e : fc_pass s l x = bad 1 2 s l := (by unfold fc_pass; simp only [c_1] <;> rfl); refine k_leaves hh_27 mc_27 ms_27 (Nat.le_of_ble_eq_true rfl) (Nat.le_of_ble_eq_true rfl) ?_; rw [e] at h; exact h M ⟨Fr.refl _ _, hC, hN⟩)



set_option maxRecDepth 100000 in
set_option maxHeartbeats 4000000 in
theorem sp_X3_until {X : dp_X} {d n : Nat} {M : dp_M} {o : dp_O} {Q : dp_Q} (h65 : 65 ≤ n) {s : GSt} {l : LSt} (hC : CG M s) (hN : CLn M l) (hV : WFL s l) (h : ∀ M', CA M M' (ok (oI (unt s l)) s l) → Q (.inl (some (.int (oI (unt s l))))) M' o) : dp_run X (d + 6 + 1) 36 [.ref 0] n M o Q := by
  apply k_run
  intro K hK
  rw [mL_36]
  show K 0 [some (.ref 0), none] [] n 0 0 M o
  have hA16 := hC.w.1
  have hC6 := hC.w.2.1
  refine k_aload_n hK ti_36_0 rfl ?_
  refine k_get hK ti_36_1 ow_36 fd_3_30 (by omega) rfl rfl ?_
  refine k_aload_n hK ti_36_4 rfl ?_
  refine k_get hK ti_36_5 ow_36 fd_3_26 (by omega) rfl rfl ?_
  refine k_callV hK (as := [.ref 3]) (st' := []) ti_36_8 ow_36 iv_3_172 mc_36 ms_36 rfl rfl (by omega) (Nat.le_of_ble_eq_true rfl) (Nat.le_of_ble_eq_true rfl) (Nat.le_of_ble_eq_true rfl) (Nat.le_of_ble_eq_true rfl) (by omega) rfl ?_
  refine sp_X0_copyFrom (by omega) ?_
  have hF := Fr_cpf M
  have hT := CL_cpf hN
  replace hC := hC.fr_f hF
  replace hN := CL.frf hF hN
  refine k_iconst hK ti_36_11 kI_0 ?_
  refine k_istore_n hK (L' := [some (.ref 0), some (.int _)]) ti_36_12 rfl ?_
  suffices hx : ∀ (M' : dp_M), (Fr wL_f M M') → (CG M' s) → (CLn M' l) → (CLf M' (roundsL s l 40)) → (∀ k, k < 40 → sht s (roundsL s l k) = false) → K 47 [some (.ref 0), some (.int (nI 40))] [] n 0 0 M' o by
    have loop : ∀ (f i : Nat) (M' : dp_M), i ≤ 40 → 40 - i < f → (Fr wL_f M M') → (CG M' s) → (CLn M' l) → (CLf M' (roundsL s l i)) → (∀ k, k < i → sht s (roundsL s l k) = false) → K 13 [some (.ref 0), some (.int (nI i))] [] n 0 0 M' o := by
      intro f
      induction f with
      | zero => intro i M' h1 h2; omega
      | succ f ih =>
        intro i M' h1 h2 hF hC hN hT h3
        refine k_iload_n hK ti_36_13 rfl ?_
        refine k_bipush hK ti_36_14 kB_40 ?_
        refine kn_ge hK (by omega) (by omega) ti_36_16 jt_16_31 (fun c_16 => ?_) (fun c_16 => ?_)
        · refine k_aload_n hK ti_36_19 rfl ?_
          refine k_aload_n hK ti_36_20 rfl ?_
          refine k_get hK ti_36_21 ow_36 fd_3_30 (by omega) rfl rfl ?_
          refine k_callV hK (as := [.ref 4]) (st' := []) ti_36_24 ow_36 iv_3_176 mc_36 ms_36 rfl rfl (by omega) (Nat.le_of_ble_eq_true rfl) (Nat.le_of_ble_eq_true rfl) (Nat.le_of_ble_eq_true rfl) (Nat.le_of_ble_eq_true rfl) (by omega) rfl ?_
          refine sp_X3_someoneIsShort_f (by omega) hC hT ?_
          refine kb_eq hK ti_36_27 jt_27_5 (fun c_27 => ?_) (fun c_27 => ?_)
          · refine k_aload_n hK ti_36_32 rfl ?_
            refine k_aload_n hK ti_36_33 rfl ?_
            refine k_get hK ti_36_34 ow_36 fd_3_30 (by omega) rfl rfl ?_
            refine k_iconst hK ti_36_37 kI_1 ?_
            refine k_callV hK (as := [.ref 4, .int _]) (st' := []) ti_36_38 ow_36 iv_3_136 mc_36 ms_36 rfl rfl (by omega) (Nat.le_of_ble_eq_true rfl) (Nat.le_of_ble_eq_true rfl) (Nat.le_of_ble_eq_true rfl) (Nat.le_of_ble_eq_true rfl) (by omega) rfl ?_
            refine sp_X3_playRounds_f (by omega) 1 hC hT (by omega) (fun M2 hF2 hT => ?_)
            replace hF := hF.trans hF2
            replace hC := hC.fr_f hF2
            replace hN := CL.frf hF2 hN
            refine k_iinc hK (L' := [some (.ref 0), some (.int (nI (i + 1)))]) ti_36_41 rfl (by rw [kI_1, nI_add]) rfl ?_
            refine k_goto hK ti_36_44 jt_44_m31 ?_
            exact ih (i + 1) _ (by omega) (by omega) hF hC hN hT (fun k hk => by by_cases e2 : k = i; (subst e2; exact c_27); exact h3 k (by omega))
          · have e : unt s l = some i := frst_hit (by omega) c_27 h3
            refine k_iload_n hK ti_36_30 rfl ?_
            refine k_ireturn hK ti_36_31 rk_36 mc_36 ms_36 (Nat.le_of_ble_eq_true rfl) (Nat.le_of_ble_eq_true rfl) ?_
            rw [e] at h
            exact h _ ⟨hF.f, hC, hN⟩
        · obtain rfl : i = 40 := by omega
          exact hx _ hF hC hN hT h3
    exact loop (40 - 0 + 1) 0 _ (by omega) (by omega) hF hC hN hT (fun k hk => absurd hk (by omega))
  intro M' hF hC hN hT h3
  refine k_aload_n hK ti_36_47 rfl ?_
  refine k_aload_n hK ti_36_48 rfl ?_
  refine k_get hK ti_36_49 ow_36 fd_3_30 (by omega) rfl rfl ?_
  refine k_callV hK (as := [.ref 4]) (st' := []) ti_36_52 ow_36 iv_3_176 mc_36 ms_36 rfl rfl (by omega) (Nat.le_of_ble_eq_true rfl) (Nat.le_of_ble_eq_true rfl) (Nat.le_of_ble_eq_true rfl) (Nat.le_of_ble_eq_true rfl) (by omega) rfl ?_
  refine sp_X3_someoneIsShort_f (by omega) hC hT ?_
  refine kb_eq hK ti_36_55 jt_55_8 (fun c_55 => ?_) (fun c_55 => ?_)
  · have e : unt s l = none := frst_none (fun k hk => by by_cases e2 : k = 40; (subst e2; exact c_55); exact h3 k (by omega))
    refine k_iconst hK ti_36_63 kI_m1 ?_
    refine k_ireturn hK ti_36_64 rk_36 mc_36 ms_36 (Nat.le_of_ble_eq_true rfl) (Nat.le_of_ble_eq_true rfl) ?_
    rw [e] at h
    exact h _ ⟨hF.f, hC, hN⟩
  · have e : unt s l = some 40 := frst_hit (by omega) c_55 h3
    refine k_bipush hK ti_36_58 kB_40 ?_
    refine k_goto hK ti_36_60 jt_60_4 ?_
    refine k_ireturn hK ti_36_64 rk_36 mc_36 ms_36 (Nat.le_of_ble_eq_true rfl) (Nat.le_of_ble_eq_true rfl) ?_
    rw [e] at h
    exact h _ ⟨hF.f, hC, hN⟩
