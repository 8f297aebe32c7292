/-! The law: until, mean, digest; its loop. (written by wip/whole/lawd.py) -/
set_option maxRecDepth 100000 in
set_option maxHeartbeats 4000000 in
theorem law_until {X : dp_X} {d : Nat} {M : dp_M} {o : Int64} {Q : dp_Q} {K : dp_K} (hK : dp_clo X (dp_run X (d + 10)) (d + 11) 146 Q K) (hX : X.1 < 2 ^ 31) {i c q : Nat} {u5 u6 u7 u8 : Option Value} (hi : i + 3 ≤ X.1) {s : GSt} {l : LSt} (hJ : JJ M s l) (hc : c + 8 ≤ 601024) (hq : q + 500 ≤ 7293034)
  (hn : ∀ (M' : dp_M) (o' : Int64) (s' : GSt) (l' : LSt) (c' q' : Nat) (u5 u6 u7 u8 : Option Value), JJ M' s' l' → c' ≤ c + 8 → q' ≤ q + 500 → K 1620 [some (.ref 1000), some (.ref 0), some (.ref 22), some (.ref 26), some (.int (nI i)), u5, u6, u7, u8] [] 65 c' q' M' o') : K 1552 [some (.ref 1000), some (.ref 0), some (.ref 22), some (.ref 26), some (.int (nI i)), u5, u6, u7, u8] [] 65 c q M o := by
  obtain ⟨hC, hN, hG, hL, hV⟩ := hJ
  have hW := hG.1
  refine k_aload_n hK ti_146_1552 rfl ?_
  refine k_callV hK (as := []) (st' := []) ti_146_1553 ow_146 iv_5_162 mc_146 ms_146 rfl rfl (by omega) (Nat.le_of_ble_eq_true rfl) (Nat.le_of_ble_eq_true rfl) (by omega) (by omega) (by omega) rfl ?_
  refine sp_X3_until (by omega) hC hN hV (fun M2 hA => ?_)
  have hG2 := RG_wC hA.1 hG
  have hL2 := RLt_wC hA.1 hL
  refine k_aload_n hK ti_146_1556 rfl ?_
  refine k_callV hK (as := []) (st' := [.int _]) ti_146_1557 ow_146 iv_5_165 mc_146 ms_146 rfl rfl (by omega) (Nat.le_of_ble_eq_true rfl) (Nat.le_of_ble_eq_true rfl) (by omega) (by omega) (by omega) rfl ?_
  refine sp_X4_until (by omega) rfl hG2 hL2 (fun M3 hB => ?_)
  have hJ2 : JJ M3 s l := JJ_next hA hB hV
  refine k_icmp_eq hK ti_146_1560 jt_1560_60 (fun c_1560 => ?_) (fun c_1560 => ?_)
  · exact hn _ _ _ _ _ _ _ _ _ _ hJ2 (by omega) (by omega)
  · exact absurd rfl c_1560

set_option maxRecDepth 100000 in
set_option maxHeartbeats 4000000 in
theorem law_mean {X : dp_X} {d : Nat} {M : dp_M} {o : Int64} {Q : dp_Q} {K : dp_K} (hK : dp_clo X (dp_run X (d + 10)) (d + 11) 146 Q K) (hX : X.1 < 2 ^ 31) {i c q : Nat} {u5 u6 u7 u8 : Option Value} (hi : i + 3 ≤ X.1) {s : GSt} {l : LSt} (hJ : JJ M s l) (hc : c + 8 ≤ 601024) (hq : q + 500 ≤ 7293034)
  (hn : ∀ (M' : dp_M) (o' : Int64) (s' : GSt) (l' : LSt) (c' q' : Nat) (u5 u6 u7 u8 : Option Value), JJ M' s' l' → c' ≤ c + 8 → q' ≤ q + 500 → K 1620 [some (.ref 1000), some (.ref 0), some (.ref 22), some (.ref 26), some (.int (nI i)), u5, u6, u7, u8] [] 65 c' q' M' o') : K 1565 [some (.ref 1000), some (.ref 0), some (.ref 22), some (.ref 26), some (.int (nI i)), u5, u6, u7, u8] [] 65 c q M o := by
  obtain ⟨hC, hN, hG, hL, hV⟩ := hJ
  have hW := hG.1
  refine k_aload_n hK ti_146_1565 rfl ?_
  refine k_callV hK (as := []) (st' := []) ti_146_1566 ow_146 iv_5_166 mc_146 ms_146 rfl rfl (by omega) (Nat.le_of_ble_eq_true rfl) (Nat.le_of_ble_eq_true rfl) (by omega) (by omega) (by omega) rfl ?_
  refine sp_X3_mean (by omega) hC hN hV ?_
  have hA : CA M M (ok (nI 0) s l) := ⟨Fr.refl _ _, hC, hN⟩
  refine k_dstore hK (L' := [some (.ref 1000), some (.ref 0), some (.ref 22), some (.ref 26), some (.int _), some (.double _), none, u7, u8]) ti_146_1569 rfl ?_
  refine k_aload_n hK ti_146_1571 rfl ?_
  refine k_callV hK (as := []) (st' := []) ti_146_1572 ow_146 iv_5_170 mc_146 ms_146 rfl rfl (by omega) (Nat.le_of_ble_eq_true rfl) (Nat.le_of_ble_eq_true rfl) (by omega) (by omega) (by omega) rfl ?_
  refine sp_X4_mean (by omega) hG hL (fun M3 hB => ?_)
  have hJ2 : JJ M3 s l := JJ_next hA hB hV
  refine k_dstore hK (L' := [some (.ref 1000), some (.ref 0), some (.ref 22), some (.ref 26), some (.int _), some (.double _), none, some (.double _), none]) ti_146_1575 rfl ?_
  refine k_dload hK ti_146_1577 rfl ?_
  refine k_dload hK ti_146_1579 rfl ?_
  refine k_dcmp hK ti_146_1581 ?_
  refine k_if_eq hK ti_146_1582 jt_1582_21 (fun c_1582 => ?_) (fun c_1582 => ?_)
  · refine k_goto hK ti_146_1603 jt_1603_17 ?_
    exact hn _ _ _ _ _ _ _ _ _ _ hJ2 (by omega) (by omega)
  · refine k_dload hK ti_146_1585 rfl ?_
    refine k_dload hK ti_146_1587 rfl ?_
    refine k_dcmp hK ti_146_1589 ?_
    refine k_if_eq hK ti_146_1590 jt_1590_11 (fun c_1590 => ?_) (fun c_1590 => ?_)
    · exact absurd c_1590 c_1582
    · refine k_dload hK ti_146_1593 rfl ?_
      refine k_dload hK ti_146_1595 rfl ?_
      refine k_dcmp hK ti_146_1597 ?_
      refine k_if_ne hK ti_146_1598 jt_1598_5 (fun c_1598 => ?_) (fun c_1598 => ?_)
      · exact absurd c_1598 c_1582
      · refine k_goto hK ti_146_1603 jt_1603_17 ?_
        exact hn _ _ _ _ _ _ _ _ _ _ hJ2 (by omega) (by omega)

set_option maxRecDepth 100000 in
set_option maxHeartbeats 4000000 in
theorem law_digest {X : dp_X} {d : Nat} {M : dp_M} {o : Int64} {Q : dp_Q} {K : dp_K} (hK : dp_clo X (dp_run X (d + 10)) (d + 11) 146 Q K) (hX : X.1 < 2 ^ 31) {i c q : Nat} {u5 u6 u7 u8 : Option Value} (hi : i + 3 ≤ X.1) {s : GSt} {l : LSt} (hJ : JJ M s l) (hc : c + 8 ≤ 601024) (hq : q + 500 ≤ 7293034)
  (hn : ∀ (M' : dp_M) (o' : Int64) (s' : GSt) (l' : LSt) (c' q' : Nat) (u5 u6 u7 u8 : Option Value), JJ M' s' l' → c' ≤ c + 8 → q' ≤ q + 500 → K 1620 [some (.ref 1000), some (.ref 0), some (.ref 22), some (.ref 26), some (.int (nI i)), u5, u6, u7, u8] [] 65 c' q' M' o') : K 1606 [some (.ref 1000), some (.ref 0), some (.ref 22), some (.ref 26), some (.int (nI i)), u5, u6, u7, u8] [] 65 c q M o := by
  obtain ⟨hC, hN, hG, hL, hV⟩ := hJ
  have hW := hG.1
  refine k_aload_n hK ti_146_1606 rfl ?_
  refine k_callV hK (as := []) (st' := []) ti_146_1607 ow_146 iv_5_171 mc_146 ms_146 rfl rfl (by omega) (Nat.le_of_ble_eq_true rfl) (Nat.le_of_ble_eq_true rfl) (by omega) (by omega) (by omega) rfl ?_
  refine sp_X3_digest (by omega) hC hN hV ?_
  have hA : CA M M (ok (nI 0) s l) := ⟨Fr.refl _ _, hC, hN⟩
  refine k_aload_n hK ti_146_1610 rfl ?_
  refine k_callV hK (as := []) (st' := [.long _]) ti_146_1611 ow_146 iv_5_175 mc_146 ms_146 rfl rfl (by omega) (Nat.le_of_ble_eq_true rfl) (Nat.le_of_ble_eq_true rfl) (by omega) (by omega) (by omega) rfl ?_
  refine sp_X4_digest (by omega) hG hL (fun M3 hB => ?_)
  have hJ2 : JJ M3 s l := JJ_next hA hB hV
  refine k_lcmp hK ti_146_1614 ?_
  refine k_if_eq hK ti_146_1615 jt_1615_5 (fun c_1615 => ?_) (fun c_1615 => ?_)
  · exact hn _ _ _ _ _ _ _ _ _ _ hJ2 (by omega) (by omega)
  · exact absurd lgc c_1615

set_option maxRecDepth 100000 in
set_option maxHeartbeats 4000000 in
theorem law_loop {X : dp_X} {d : Nat} {Q : dp_Q} {K : dp_K} (hK : dp_clo X (dp_run X (d + 10)) (d + 11) 146 Q K) (hX6 : X.1 ≤ 1536) (hQ : ∀ M o, Q (.inl (some (.int (nI 1)))) M o) : ∀ (f i c q : Nat) (M : dp_M) (o : Int64) (s : GSt) (l : LSt) (u5 u6 u7 u8 : Option Value), X.1 + 3 - i < f → i ≤ X.1 + 2 → JJ M s l → c ≤ 8 * i + 600 → q ≤ 500 * i + 50000 → K 23 [some (.ref 1000), some (.ref 0), some (.ref 22), some (.ref 26), some (.int (nI i)), u5, u6, u7, u8] [] 65 c q M o := by
  have hX : X.1 < 2 ^ 31 := by omega
  intro f
  induction f with
  | zero => intro i c q M o s l u5 u6 u7 u8 h1; omega
  | succ f ih =>
    intro i c q M o s l u5 u6 u7 u8 h1 h2 hJ hc hq
    have nxt : i + 3 ≤ X.1 → ∀ (M' : dp_M) (o' : Int64) (s' : GSt) (l' : LSt) (c' q' : Nat) (u5 u6 u7 u8 : Option Value), JJ M' s' l' → c' ≤ c + 8 → q' ≤ q + 500 → K 1620 [some (.ref 1000), some (.ref 0), some (.ref 22), some (.ref 26), some (.int (nI i)), u5, u6, u7, u8] [] 65 c' q' M' o' := by
      intro hi3 M' o' s' l' c' q' u5 u6 u7 u8 hJ' h3 h4
      refine k_iinc hK (L' := [some (.ref 1000), some (.ref 0), some (.ref 22), some (.ref 26), some (.int (nI (i + 3))), u5, u6, u7, u8]) ti_146_1620 rfl (by rw [kI_3, nI_add]) rfl ?_
      refine k_goto hK ti_146_1623 jt_1623_m1600 ?_
      exact ih (i + 3) c' q' M' o' s' l' u5 u6 u7 u8 (by omega) (by omega) hJ' (by omega) (by omega)
    refine k_iload hK ti_146_23 rfl ?_
    refine k_aload_n hK ti_146_25 rfl ?_
    refine k_slen hK ti_146_26 ?_
    refine k_iconst hK ti_146_27 kI_3 ?_
    refine k_isub hK (z := (nI X.1 - nI 3)) ti_146_28 rfl ?_
    refine k_icmp_gt hK ti_146_29 jt_29_1597 (fun c_29 => ?_) (fun c_29 => ?_)
    · refine k_iconst hK ti_146_1626 kI_1 ?_
      refine k_zreturn hK ti_146_1627 rk_146 mc_146 ms_146 (by omega) (by omega) (by decide) ?_
      exact hQ _ _
    · have hi3 := (law_ge (by omega) (by omega)).mp c_29
      obtain ⟨j, hj, ej⟩ := pk_andE (X.2 i) (m := nI 31) 5 (by decide)
      have hj : j < 32 := hj
      replace nxt := nxt hi3
      refine k_aload_n hK ti_146_32 rfl ?_
      refine k_iload hK ti_146_33 rfl ?_
      refine k_sald hK i ti_146_35 rfl (by omega) hX ?_
      refine k_bipush hK ti_146_36 kB_31 ?_
      refine k_iand hK (z := (nI j)) ti_146_38 ej ?_
      have hw7 : j = 0 ∨ j = 1 ∨ j = 2 ∨ j = 3 ∨ j = 4 ∨ j = 5 ∨ j = 6 ∨ j = 7 ∨ j = 8 ∨ j = 9 ∨ j = 10 ∨ j = 11 ∨ j = 12 ∨ j = 13 ∨ j = 14 ∨ j = 15 ∨ j = 16 ∨ j = 17 ∨ j = 18 ∨ j = 19 ∨ j = 20 ∨ j = 21 ∨ j = 22 ∨ j = 23 ∨ j = 24 ∨ j = 25 ∨ j = 26 ∨ j = 27 ∨ j = 28 ∨ j = 29 ∨ j = 30 ∨ j = 31 := by omega
      rcases hw7 with rfl | rfl | rfl | rfl | rfl | rfl | rfl | rfl | rfl | rfl | rfl | rfl | rfl | rfl | rfl | rfl | rfl | rfl | rfl | rfl | rfl | rfl | rfl | rfl | rfl | rfl | rfl | rfl | rfl | rfl | rfl | rfl
      · refine k_swl hK (off := 113) ti_146_39 (by decide) rfl (by decide) jt_39_113 ?_
        exact law_setStem hK hX hi3 hJ (by omega) (by omega) nxt
      · refine k_swl hK (off := 181) ti_146_39 (by decide) rfl (by decide) jt_39_181 ?_
        exact law_print hK hX hi3 hJ (by omega) (by omega) nxt
      · refine k_swl hK (off := 225) ti_146_39 (by decide) rfl (by decide) jt_39_225 ?_
        exact law_write hK hX hi3 hJ (by omega) (by omega) nxt
      · refine k_swl hK (off := 293) ti_146_39 (by decide) rfl (by decide) jt_39_293 ?_
        exact law_strike hK hX hi3 hJ (by omega) (by omega) nxt
      · refine k_swl hK (off := 361) ti_146_39 (by decide) rfl (by decide) jt_39_361 ?_
        exact law_client hK hX hi3 hJ (by omega) (by omega) nxt
      · refine k_swl hK (off := 417) ti_146_39 (by decide) rfl (by decide) jt_39_417 ?_
        exact law_want hK hX hi3 hJ (by omega) (by omega) nxt
      · refine k_swl hK (off := 485) ti_146_39 (by decide) rfl (by decide) jt_39_485 ?_
        exact law_drop hK hX hi3 hJ (by omega) (by omega) nxt
      · refine k_swl hK (off := 553) ti_146_39 (by decide) rfl (by decide) jt_39_553 ?_
        exact law_setBar hK hX hi3 hJ (by omega) (by omega) nxt
      · refine k_swl hK (off := 621) ti_146_39 (by decide) rfl (by decide) jt_39_621 ?_
        exact law_pay hK hX hi3 hJ (by omega) (by omega) nxt
      · refine k_swl hK (off := 689) ti_146_39 (by decide) rfl (by decide) jt_39_689 ?_
        exact law_send hK hX hi3 hJ (by omega) (by omega) nxt
      · refine k_swl hK (off := 745) ti_146_39 (by decide) rfl (by decide) jt_39_745 ?_
        exact law_pass hK hX hi3 hJ (by omega) (by omega) nxt
      · refine k_swl hK (off := 801) ti_146_39 (by decide) rfl (by decide) jt_39_801 ?_
        exact law_told hK hX hi3 hJ (by omega) (by omega) nxt
      · refine k_swl hK (off := 869) ti_146_39 (by decide) rfl (by decide) jt_39_869 ?_
        exact law_word hK hX hi3 hJ (by omega) (by omega) nxt
      · refine k_swl hK (off := 937) ti_146_39 (by decide) rfl (by decide) jt_39_937 ?_
        exact law_about hK hX hi3 hJ (by omega) (by omega) nxt
      · refine k_swl hK (off := 1005) ti_146_39 (by decide) rfl (by decide) jt_39_1005 ?_
        exact law_stem hK hX hi3 hJ (by omega) (by omega) nxt
      · refine k_swl hK (off := 1073) ti_146_39 (by decide) rfl (by decide) jt_39_1073 ?_
        exact law_count hK hX hi3 hJ (by omega) (by omega) nxt
      · refine k_swl hK (off := 1129) ti_146_39 (by decide) rfl (by decide) jt_39_1129 ?_
        exact law_rarity hK hX hi3 hJ (by omega) (by omega) nxt
      · refine k_swl hK (off := 1185) ti_146_39 (by decide) rfl (by decide) jt_39_1185 ?_
        exact law_score hK hX hi3 hJ (by omega) (by omega) nxt
      · refine k_swl hK (off := 1253) ti_146_39 (by decide) rfl (by decide) jt_39_1253 ?_
        exact law_fit hK hX hi3 hJ (by omega) (by omega) nxt
      · refine k_swl hK (off := 1321) ti_146_39 (by decide) rfl (by decide) jt_39_1321 ?_
        exact law_alike hK hX hi3 hJ (by omega) (by omega) nxt
      · refine k_swl hK (off := 1389) ti_146_39 (by decide) rfl (by decide) jt_39_1389 ?_
        exact law_advise hK hX hi3 hJ (by omega) (by omega) nxt
      · refine k_swl hK (off := 1445) ti_146_39 (by decide) rfl (by decide) jt_39_1445 ?_
        exact law_foresee hK hX hi3 hJ (by omega) (by omega) nxt
      · refine k_swl hK (off := 1513) ti_146_39 (by decide) rfl (by decide) jt_39_1513 ?_
        exact law_until hK hX hi3 hJ (by omega) (by omega) nxt
      · refine k_swl hK (off := 1526) ti_146_39 (by decide) rfl (by decide) jt_39_1526 ?_
        exact law_mean hK hX hi3 hJ (by omega) (by omega) nxt
      · refine k_swl hK (off := 1567) ti_146_39 (by decide) rfl (by decide) jt_39_1567 ?_
        exact law_digest hK hX hi3 hJ (by omega) (by omega) nxt
      · refine k_swd hK ti_146_39 (by decide) (by decide) (by decide) jt_39_1581 ?_
        exact nxt _ _ _ _ _ _ _ _ _ _ hJ (by omega) (by omega)
      · refine k_swd hK ti_146_39 (by decide) (by decide) (by decide) jt_39_1581 ?_
        exact nxt _ _ _ _ _ _ _ _ _ _ hJ (by omega) (by omega)
      · refine k_swd hK ti_146_39 (by decide) (by decide) (by decide) jt_39_1581 ?_
        exact nxt _ _ _ _ _ _ _ _ _ _ hJ (by omega) (by omega)
      · refine k_swd hK ti_146_39 (by decide) (by decide) (by decide) jt_39_1581 ?_
        exact nxt _ _ _ _ _ _ _ _ _ _ hJ (by omega) (by omega)
      · refine k_swd hK ti_146_39 (by decide) (by decide) (by decide) jt_39_1581 ?_
        exact nxt _ _ _ _ _ _ _ _ _ _ hJ (by omega) (by omega)
      · refine k_swd hK ti_146_39 (by decide) (by decide) (by decide) jt_39_1581 ?_
        exact nxt _ _ _ _ _ _ _ _ _ _ hJ (by omega) (by omega)
      · refine k_swd hK ti_146_39 (by decide) (by decide) (by decide) jt_39_1581 ?_
        exact nxt _ _ _ _ _ _ _ _ _ _ hJ (by omega) (by omega)
