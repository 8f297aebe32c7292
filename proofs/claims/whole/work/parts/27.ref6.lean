/-! The reference: wishes, what would be. (written by wip/whole/ref6.py) -/
set_option maxRecDepth 100000 in
set_option maxHeartbeats 4000000 in
theorem sp_X4_wish {X : dp_X} {d n : Nat} {M : dp_M} {o : Int64} {Q : dp_Q} (h65 : 65 ≤ n) {s : GSt} (c x : Nat) (hG : RG M s) (hc : c < g_nC s) (hx : x < 20) (h : Q (.inl (some (.int (oI (wsh s c x))))) M o) : dp_run X (d + 1 + 1) 83 [.ref 22, .int (nI c), .int (nI x)] n M o Q := by
  apply k_run
  intro K hK
  rw [mL_83]
  show K 0 [some (.ref 22), some (.int (nI c)), some (.int (nI x)), none] [] n 0 0 M o
  have hA16 := hG.1.1
  have hC6 := hG.1.2.1
  have hm5 := hG.1.2.2.2.2.2.1 c (by omega)
  refine k_iconst hK ti_83_0 kI_0 ?_
  refine k_istore_n hK (L' := [some (.ref 22), some (.int _), some (.int _), some (.int _)]) ti_83_1 rfl ?_
  have loop : ∀ (f i : Nat), i ≤ (g_many s c) → (g_many s c) - i < f → (∀ k, k < i → (g_wish s c k == x) = false) → K 2 [some (.ref 22), some (.int (nI c)), some (.int (nI x)), some (.int (nI i))] [] n 0 0 M o := by
    intro f
    induction f with
    | zero => intro i h1 h2; omega
    | succ f ih =>
      intro i h1 h2 h3
      refine k_iload_n hK ti_83_2 rfl ?_
      refine k_aload_n hK ti_83_3 rfl ?_
      refine k_iload_n hK ti_83_4 rfl ?_
      refine k_iconst hK ti_83_5 kI_1 ?_
      refine k_callV hK (as := [.int _, .int _]) (st' := [.int _]) ti_83_6 ow_83 iv_4_61 mc_83 ms_83 rfl rfl (by omega) (Nat.le_of_ble_eq_true rfl) (Nat.le_of_ble_eq_true rfl) (Nat.le_of_ble_eq_true rfl) (Nat.le_of_ble_eq_true rfl) (by omega) rfl ?_
      refine sp_X4_cl (by omega) c 1 (by omega) (by omega) (k_aftv ((nI (g_many s c))) (hG.2.2.2.2.2.2.1 c (by omega)) ?_)
      refine kn_ge hK (by omega) (by omega) ti_83_9 jt_9_23 (fun c_9 => ?_) (fun c_9 => ?_)
      · have hw20 := hG.1.2.2.2.2.2.2 c i (by omega) c_9
        refine k_aload_n hK ti_83_12 rfl ?_
        refine k_iload_n hK ti_83_13 rfl ?_
        refine k_iconst hK ti_83_14 kI_5 ?_
        refine k_iload_n hK ti_83_15 rfl ?_
        refine k_iadd hK (z := (nI (5 + i))) ti_83_16 (nI_add _ _) ?_
        refine k_callV hK (as := [.int _, .int _]) (st' := []) ti_83_17 ow_83 iv_4_61 mc_83 ms_83 rfl rfl (by omega) (Nat.le_of_ble_eq_true rfl) (Nat.le_of_ble_eq_true rfl) (Nat.le_of_ble_eq_true rfl) (Nat.le_of_ble_eq_true rfl) (by omega) rfl ?_
        refine sp_X4_cl (by omega) c (5 + i) (by omega) (by omega) (k_aftv ((nI (g_wish s c i))) (hG.2.2.2.2.2.2.2.1 c i (by omega) (by omega)) ?_)
        refine k_iload_n hK ti_83_20 rfl ?_
        refine kn_ne hK (by omega) (by omega) ti_83_21 jt_21_5 (fun c_21 => ?_) (fun c_21 => ?_)
        · have e : wsh s c x = some i := frst_hit c_9 (by simp [*]) h3
          rw [e] at h
          refine k_iload_n hK ti_83_24 rfl ?_
          refine k_ireturn hK ti_83_25 rk_83 mc_83 ms_83 (Nat.le_of_ble_eq_true rfl) (Nat.le_of_ble_eq_true rfl) ?_
          exact h
        · refine k_iinc hK (L' := [some (.ref 22), some (.int _), some (.int _), some (.int (nI (i + 1)))]) ti_83_26 rfl (by rw [kI_1, nI_add]) rfl ?_
          refine k_goto hK ti_83_29 jt_29_m27 ?_
          exact ih (i + 1) (by omega) (by omega) (fun k hk => by by_cases e : k = i; (subst e; simp [*]); exact h3 k (by omega))
      · obtain rfl : i = (g_many s c) := by omega
        have e : wsh s c x = none := frst_none h3
        rw [e] at h
        refine k_iconst hK ti_83_32 kI_m1 ?_
        refine k_ireturn hK ti_83_33 rk_83 mc_83 ms_83 (Nat.le_of_ble_eq_true rfl) (Nat.le_of_ble_eq_true rfl) ?_
        exact h
  exact loop ((g_many s c) - 0 + 1) 0 (by omega) (by omega) (fun k hk => absurd hk (by omega))

set_option maxRecDepth 100000 in
set_option maxHeartbeats 4000000 in
theorem sp_X4_isShort {X : dp_X} {d n : Nat} {M : dp_M} {o : Int64} {Q : dp_Q} (h65 : 65 ≤ n) {s : GSt} {l : LSt} (hG : RG M s) (hL : RLt M l) (h : Q (.inl (some (.int (bl (sht s l))))) M o) : dp_run X (d + 6 + 1) 118 [.ref 22] n M o Q := by
  apply k_run
  intro K hK
  rw [mL_118]
  show K 0 [some (.ref 22), none] [] n 0 0 M o
  have hA16 := hG.1.1
  have hC6 := hG.1.2.1
  refine k_iconst hK ti_118_0 kI_0 ?_
  refine k_istore_n hK (L' := [some (.ref 22), some (.int _)]) ti_118_1 rfl ?_
  have loop : ∀ (f i : Nat), i ≤ (g_nC s) → (g_nC s) - i < f → (∀ k, k < i → sht1 s l k = false) → K 2 [some (.ref 22), some (.int (nI i))] [] n 0 0 M o := by
    intro f
    induction f with
    | zero => intro i h1 h2; omega
    | succ f ih =>
      intro i h1 h2 h3
      refine k_iload_n hK ti_118_2 rfl ?_
      refine k_aload_n hK ti_118_3 rfl ?_
      refine k_geti hK (nI (g_nC s)) ti_118_4 ow_118 fd_4_30 (by omega) rfl rfl hG.2.2.1 ?_
      refine kn_ge hK (by omega) (by omega) ti_118_7 jt_7_41 (fun c_7 => ?_) (fun c_7 => ?_)
      · refine k_aload_n hK ti_118_10 rfl ?_
        refine k_iload_n hK ti_118_11 rfl ?_
        refine k_iconst hK ti_118_12 kI_0 ?_
        refine k_callV hK (as := [.int _, .int _]) (st' := []) ti_118_13 ow_118 iv_4_91 mc_118 ms_118 rfl rfl (by omega) (Nat.le_of_ble_eq_true rfl) (Nat.le_of_ble_eq_true rfl) (Nat.le_of_ble_eq_true rfl) (Nat.le_of_ble_eq_true rfl) (by omega) rfl ?_
        refine sp_X4_fitAt (by omega) i 0 hG hL (by omega) (by omega) ?_
        rcases hfa : fA s l i 0 with _ | a
        · have e : sht1 s l i = false := by simp only [sht1, hfa]
          refine k_iconst hK ti_118_16 kI_m1 ?_
          refine k_icmp_eq hK ti_118_17 jt_17_25 (fun c_17 => ?_) (fun c_17 => ?_)
          · refine k_iinc hK (L' := [some (.ref 22), some (.int (nI (i + 1)))]) ti_118_42 rfl (by rw [kI_1, nI_add]) rfl ?_
            refine k_goto hK ti_118_45 jt_45_m43 ?_
            exact ih (i + 1) (by omega) (by omega) (fun k hk => by by_cases e2 : k = i; (subst e2; exact e); exact h3 k (by omega))
          · exact absurd rfl c_17
        · have ha := fA_lt hfa
          refine k_iconst hK ti_118_16 kI_m1 ?_
          refine k_icmp_eq hK ti_118_17 jt_17_25 (fun c_17 => ?_) (fun c_17 => ?_)
          · exact absurd c_17 (nI_nm1 (by omega))
          · refine k_aload_n hK ti_118_20 rfl ?_
            refine k_iload_n hK ti_118_21 rfl ?_
            refine k_aload_n hK ti_118_22 rfl ?_
            refine k_iload_n hK ti_118_23 rfl ?_
            refine k_iconst hK ti_118_24 kI_0 ?_
            refine k_callV hK (as := [.int _, .int _]) (st' := [.int _, .ref 22]) ti_118_25 ow_118 iv_4_91 mc_118 ms_118 rfl rfl (by omega) (Nat.le_of_ble_eq_true rfl) (Nat.le_of_ble_eq_true rfl) (Nat.le_of_ble_eq_true rfl) (Nat.le_of_ble_eq_true rfl) (by omega) rfl ?_
            refine sp_X4_fitAt (by omega) i 0 hG hL (by omega) (by omega) (k_aftv (nI a) (by rw [hfa]; rfl) ?_)
            refine k_callV hK (as := [.int _, .int _]) (st' := []) ti_118_28 ow_118 iv_4_94 mc_118 ms_118 rfl rfl (by omega) (Nat.le_of_ble_eq_true rfl) (Nat.le_of_ble_eq_true rfl) (Nat.le_of_ble_eq_true rfl) (Nat.le_of_ble_eq_true rfl) (by omega) rfl ?_
            refine sp_X4_price (by omega) i a hG hL (by omega) (by omega) ?_
            refine k_aload_n hK ti_118_31 rfl ?_
            refine k_iload_n hK ti_118_32 rfl ?_
            refine k_iconst hK ti_118_33 kI_0 ?_
            refine k_callV hK (as := [.int _, .int _]) (st' := [.int _]) ti_118_34 ow_118 iv_4_61 mc_118 ms_118 rfl rfl (by omega) (Nat.le_of_ble_eq_true rfl) (Nat.le_of_ble_eq_true rfl) (Nat.le_of_ble_eq_true rfl) (Nat.le_of_ble_eq_true rfl) (by omega) rfl ?_
            refine sp_X4_cl (by omega) i 0 (by omega) (by omega) (k_aftv ((l_coin l i)) ((hL.2.2.1 i (by omega)).1) ?_)
            refine k_icmp_le hK ti_118_37 jt_37_5 (fun c_37 => ?_) (fun c_37 => ?_)
            · have e : sht1 s l i = true := by simp only [sht1, hfa]; exact decide_eq_true c_37
              have e2 : sht s l = true := by unfold sht; rw [frst_hit c_7 e h3]; rfl
              rw [e2] at h
              refine k_iconst hK ti_118_40 kI_1 ?_
              refine k_zreturn hK ti_118_41 rk_118 mc_118 ms_118 (Nat.le_of_ble_eq_true rfl) (Nat.le_of_ble_eq_true rfl) (by decide) ?_
              exact h
            · have e : sht1 s l i = false := by simp only [sht1, hfa]; exact decide_eq_false c_37
              refine k_iinc hK (L' := [some (.ref 22), some (.int (nI (i + 1)))]) ti_118_42 rfl (by rw [kI_1, nI_add]) rfl ?_
              refine k_goto hK ti_118_45 jt_45_m43 ?_
              exact ih (i + 1) (by omega) (by omega) (fun k hk => by by_cases e2 : k = i; (subst e2; exact e); exact h3 k (by omega))
      · obtain rfl : i = (g_nC s) := by omega
        have e2 : sht s l = false := by unfold sht; rw [frst_none h3]; rfl
        rw [e2] at h
        refine k_iconst hK ti_118_48 kI_0 ?_
        refine k_zreturn hK ti_118_49 rk_118 mc_118 ms_118 (Nat.le_of_ble_eq_true rfl) (Nat.le_of_ble_eq_true rfl) (by decide) ?_
        exact h
  exact loop ((g_nC s) - 0 + 1) 0 (by omega) (by omega) (fun k hk => absurd hk (by omega))

set_option maxRecDepth 100000 in
set_option maxHeartbeats 4000000 in
theorem sp_X4_alike {X : dp_X} {d n : Nat} {M : dp_M} {o : Int64} {Q : dp_Q} (h65 : 65 ≤ n) {s : GSt} {l : LSt} (x y : Int32) (hG : RG M s) (hL : RLt M l) (h : ∀ M', RA M M' (fc_alike s l x y) → Q (.inl (some (.int (u_r (fc_alike s l x y))))) M' o) : dp_run X (d + 2 + 1) 114 [.ref 22, .int x, .int y] n M o Q := by
  apply k_run
  intro K hK
  rw [mL_114]
  show K 0 [some (.ref 22), some (.int x), some (.int y), none, none, none] [] n 0 0 M o
  have hA16 := hG.1.1
  have hC6 := hG.1.2.1
  refine k_aload_n hK ti_114_0 rfl ?_
  refine k_iconst hK ti_114_1 kI_0 ?_
  refine k_put hK ti_114_2 ow_114 fd_4_19 (by omega) rfl rfl ?_
  have hF : Fr wR M (dp_up M 22 0 (nI 0)) := Fr.up0 _ (Fr.refl _ _)
  replace hG := hG.up0 (nI 0)
  replace hL := hL.up0 (nI 0)
  have h0 : dp_up M 22 0 (nI 0) 22 0 = nI 0 := dp_up_s _ _ _ _
  generalize hM9 : dp_up M 22 0 (nI 0) = M9 at hF hG hL h0 ⊢
  clear hM9
  refine k_aload_n hK ti_114_5 rfl ?_
  refine k_iload_n hK ti_114_6 rfl ?_
  refine k_callV hK (as := [.int _]) (st' := []) ti_114_7 ow_114 iv_4_44 mc_114 ms_114 rfl rfl (by omega) (Nat.le_of_ble_eq_true rfl) (Nat.le_of_ble_eq_true rfl) (Nat.le_of_ble_eq_true rfl) (Nat.le_of_ble_eq_true rfl) (by omega) rfl ?_
  refine sp_X4_isArticle (by omega) _ hG ?_
  refine kb_eq hK ti_114_10 jt_10_11 (fun c_10 => ?_) (fun c_10 => ?_)
  · have e : fc_alike s l x y = bad 1 0 s l := by simp only [fc_alike, is_f c_10]
    refine k_aload_n hK ti_114_21 rfl ?_
    refine k_iconst hK ti_114_22 kI_1 ?_
    refine k_callV hK (as := [.int _]) (st' := []) ti_114_23 ow_114 iv_4_40 mc_114 ms_114 rfl rfl (by omega) (Nat.le_of_ble_eq_true rfl) (Nat.le_of_ble_eq_true rfl) (Nat.le_of_ble_eq_true rfl) (Nat.le_of_ble_eq_true rfl) (by omega) rfl ?_
    refine sp_X4_fail (by omega) _ ?_
    refine k_ireturn hK ti_114_26 rk_114 mc_114 ms_114 (Nat.le_of_ble_eq_true rfl) (Nat.le_of_ble_eq_true rfl) ?_
    rw [e] at h
    exact h _ (RA.bad rfl hF hG hL)
  · obtain ⟨a, hx_a⟩ := is_t c_10
    obtain ⟨hl_a, rfl⟩ := ix_some hx_a (by omega)
    refine k_aload_n hK ti_114_13 rfl ?_
    refine k_iload_n hK ti_114_14 rfl ?_
    refine k_callV hK (as := [.int _]) (st' := []) ti_114_15 ow_114 iv_4_44 mc_114 ms_114 rfl rfl (by omega) (Nat.le_of_ble_eq_true rfl) (Nat.le_of_ble_eq_true rfl) (Nat.le_of_ble_eq_true rfl) (Nat.le_of_ble_eq_true rfl) (by omega) rfl ?_
    refine sp_X4_isArticle (by omega) _ hG ?_
    refine kb_ne hK ti_114_18 jt_18_9 (fun c_18 => ?_) (fun c_18 => ?_)
    · have e : fc_alike s l (nI a) y = bad 1 0 s l := by simp only [fc_alike, hx_a, is_f c_18]
      refine k_aload_n hK ti_114_21 rfl ?_
      refine k_iconst hK ti_114_22 kI_1 ?_
      refine k_callV hK (as := [.int _]) (st' := []) ti_114_23 ow_114 iv_4_40 mc_114 ms_114 rfl rfl (by omega) (Nat.le_of_ble_eq_true rfl) (Nat.le_of_ble_eq_true rfl) (Nat.le_of_ble_eq_true rfl) (Nat.le_of_ble_eq_true rfl) (by omega) rfl ?_
      refine sp_X4_fail (by omega) _ ?_
      refine k_ireturn hK ti_114_26 rk_114 mc_114 ms_114 (Nat.le_of_ble_eq_true rfl) (Nat.le_of_ble_eq_true rfl) ?_
      rw [e] at h
      exact h _ (RA.bad rfl hF hG hL)
    · obtain ⟨b, hx_b⟩ := is_t c_18
      obtain ⟨hl_b, rfl⟩ := ix_some hx_b (by omega)
      have hla := hG.1.2.2.2.1 a (by omega)
      have hlb := hG.1.2.2.2.1 b (by omega)
      refine k_aload_n hK ti_114_27 rfl ?_
      refine k_iload_n hK ti_114_28 rfl ?_
      refine k_iconst hK ti_114_29 kI_0 ?_
      refine k_callV hK (as := [.int _, .int _]) (st' := []) ti_114_30 ow_114 iv_4_47 mc_114 ms_114 rfl rfl (by omega) (Nat.le_of_ble_eq_true rfl) (Nat.le_of_ble_eq_true rfl) (Nat.le_of_ble_eq_true rfl) (Nat.le_of_ble_eq_true rfl) (by omega) rfl ?_
      refine sp_X4_ar (by omega) a 0 (by omega) (by omega) (k_aftv ((nI (g_len s a))) (hG.2.2.2.2.1 a (by omega)) ?_)
      refine k_aload_n hK ti_114_33 rfl ?_
      refine k_iload_n hK ti_114_34 rfl ?_
      refine k_iconst hK ti_114_35 kI_0 ?_
      refine k_callV hK (as := [.int _, .int _]) (st' := [.int _]) ti_114_36 ow_114 iv_4_47 mc_114 ms_114 rfl rfl (by omega) (Nat.le_of_ble_eq_true rfl) (Nat.le_of_ble_eq_true rfl) (Nat.le_of_ble_eq_true rfl) (Nat.le_of_ble_eq_true rfl) (by omega) rfl ?_
      refine sp_X4_ar (by omega) b 0 (by omega) (by omega) (k_aftv ((nI (g_len s b))) (hG.2.2.2.2.1 b (by omega)) ?_)
      refine k_iadd hK (z := (nI (g_len s a + g_len s b))) ti_114_39 (nI_add _ _) ?_
      refine k_istore_n hK (L' := [some (.ref 22), some (.int _), some (.int _), some (.int _), none, none]) ti_114_40 rfl ?_
      refine k_iconst hK ti_114_41 kI_0 ?_
      refine k_istore hK (L' := [some (.ref 22), some (.int _), some (.int _), some (.int _), some (.int _), none]) ti_114_42 rfl ?_
      refine k_iconst hK ti_114_44 kI_0 ?_
      refine k_istore hK (L' := [some (.ref 22), some (.int _), some (.int _), some (.int _), some (.int _), some (.int _)]) ti_114_45 rfl ?_
      have loop : ∀ (f i : Nat), i ≤ 20 → 20 - i < f → K 47 [some (.ref 22), some (.int (nI a)), some (.int (nI b)), some (.int (nI (g_len s a + g_len s b))), some (.int (nI (2 * sN i (fun x => min (tm s a x) (tm s b x))))), some (.int (nI i))] [] n 0 0 M9 o := by
        intro f
        induction f with
        | zero => intro i h1 h2; omega
        | succ f ih =>
          intro i h1 h2
          have hsl := sN_le (f := (fun x => min (tm s a x) (tm s b x))) (b := 12) (n := i) (fun k hk => Nat.le_trans (Nat.min_le_left _ _) (tm_le hG.1 (by omega) k))
          refine k_iload hK ti_114_47 rfl ?_
          refine k_bipush hK ti_114_49 kB_20 ?_
          refine kn_ge hK (by omega) (by omega) ti_114_51 jt_51_33 (fun c_51 => ?_) (fun c_51 => ?_)
          · have hta := tm_le hG.1 (a := a) (by omega) i
            have htb := tm_le hG.1 (a := b) (by omega) i
            refine k_iload hK ti_114_54 rfl ?_
            refine k_iconst hK ti_114_56 kI_2 ?_
            refine k_aload_n hK ti_114_57 rfl ?_
            refine k_iload_n hK ti_114_58 rfl ?_
            refine k_iload hK ti_114_59 rfl ?_
            refine k_callV hK (as := [.int _, .int _]) (st' := [.int _, .int _]) ti_114_61 ow_114 iv_4_75 mc_114 ms_114 rfl rfl (by omega) (Nat.le_of_ble_eq_true rfl) (Nat.le_of_ble_eq_true rfl) (Nat.le_of_ble_eq_true rfl) (Nat.le_of_ble_eq_true rfl) (by omega) rfl ?_
            refine sp_X4_times (by omega) a i hG (by omega) (by omega) ?_
            refine k_aload_n hK ti_114_64 rfl ?_
            refine k_iload_n hK ti_114_65 rfl ?_
            refine k_iload hK ti_114_66 rfl ?_
            refine k_callV hK (as := [.int _, .int _]) (st' := [.int _, .int _, .int _]) ti_114_68 ow_114 iv_4_75 mc_114 ms_114 rfl rfl (by omega) (Nat.le_of_ble_eq_true rfl) (Nat.le_of_ble_eq_true rfl) (Nat.le_of_ble_eq_true rfl) (Nat.le_of_ble_eq_true rfl) (by omega) rfl ?_
            refine sp_X4_times (by omega) b i hG (by omega) (by omega) ?_
            refine k_minv hK (nI (min (tm s a i) (tm s b i))) ti_114_71 ow_114 nt_4_70 mc_114 ms_114 (Nat.le_of_ble_eq_true rfl) (Nat.le_of_ble_eq_true rfl) (Nat.le_of_ble_eq_true rfl) (nI_min (by omega) (by omega)) ?_
            refine k_imul hK (z := (nI (2 * (min (tm s a i) (tm s b i))))) ti_114_74 (pk_mul _ _) ?_
            refine k_iadd hK (z := (nI (2 * sN (i + 1) (fun x => min (tm s a x) (tm s b x))))) ti_114_75 (by rw [nI_add, ← Nat.mul_add]; rfl) ?_
            refine k_istore hK (L' := [some (.ref 22), some (.int _), some (.int _), some (.int _), some (.int _), some (.int _)]) ti_114_76 rfl ?_
            refine k_iinc hK (L' := [some (.ref 22), some (.int _), some (.int _), some (.int _), some (.int _), some (.int (nI (i + 1)))]) ti_114_78 rfl (by rw [kI_1, nI_add]) rfl ?_
            refine k_goto hK ti_114_81 jt_81_m34 ?_
            exact ih (i + 1) (by omega) (by omega) 
          · obtain rfl : i = 20 := by omega
            refine k_iload_n hK ti_114_84 rfl ?_
            refine kz_ne hK (by omega) ti_114_85 jt_85_7 (fun c_85 => ?_) (fun c_85 => ?_)
            · have e : fc_alike s l (nI a) (nI b) = ok (nI 0) s l := by simp only [fc_alike, hx_a, hx_b, alk, if_pos c_85]
              refine k_iconst hK ti_114_88 kI_0 ?_
              refine k_goto hK ti_114_89 jt_89_10 ?_
              refine k_ireturn hK ti_114_99 rk_114 mc_114 ms_114 (Nat.le_of_ble_eq_true rfl) (Nat.le_of_ble_eq_true rfl) ?_
              rw [e] at h
              exact h _ (RA.ok hF hG hL h0)
            · have e : fc_alike s l (nI a) (nI b) = ok (nI (alk s a b)) s l := by simp only [fc_alike, hx_a, hx_b]
              have e3 : alk s a b = 100 * (2 * sN 20 (fun x => min (tm s a x) (tm s b x))) / (g_len s a + g_len s b) := by unfold alk; rw [if_neg c_85, Nat.mul_comm 100]; rfl
              refine k_bipush hK ti_114_92 kB_100 ?_
              refine k_iload hK ti_114_94 rfl ?_
              refine k_imul hK (z := (nI (100 * (2 * sN 20 (fun x => min (tm s a x) (tm s b x)))))) ti_114_96 (pk_mul _ _) ?_
              refine k_iload_n hK ti_114_97 rfl ?_
              refine k_idiv hK (z := (nI (alk s a b))) ti_114_98 (nI_ne0 (by omega) (by omega)) (by rw [e3, pk_div (by omega) (by omega) (by omega)]) ?_
              refine k_ireturn hK ti_114_99 rk_114 mc_114 ms_114 (Nat.le_of_ble_eq_true rfl) (Nat.le_of_ble_eq_true rfl) ?_
              rw [e] at h
              exact h _ (RA.ok hF hG hL h0)
      exact loop (20 - 0 + 1) 0 (by omega) (by omega) 

set_option maxRecDepth 100000 in
set_option maxHeartbeats 4000000 in
theorem sp_X4_bringBack {X : dp_X} {d n : Nat} {M : dp_M} {o : Int64} {Q : dp_Q} (h65 : 65 ≤ n) (x : Int32) (h67 : 67 ≤ n) (h : Q (.inl none) (bbk M x) o) : dp_run X (d + 0 + 1) 116 [.ref 22, .ref 65, .ref 66, .int x] n M o Q := by
  apply k_run
  intro K hK
  rw [mL_116]
  show K 0 [some (.ref 22), some (.ref 65), some (.ref 66), some (.int x)] [] n 0 0 M o
  refine k_aload_n hK ti_116_0 rfl ?_
  refine k_iconst hK ti_116_1 kI_0 ?_
  refine k_aload_n hK ti_116_2 rfl ?_
  refine k_get hK ti_116_3 ow_116 fd_4_13 (by omega) rfl rfl ?_
  refine k_iconst hK ti_116_6 kI_0 ?_
  refine k_aload_n hK ti_116_7 rfl ?_
  refine k_get hK ti_116_8 ow_116 fd_4_13 (by omega) rfl rfl ?_
  refine k_alen hK ti_116_11 rfl (by omega) (by omega) dpl_24 ?_
  refine k_copy hK 0 0 224 ti_116_12 ow_116 nt_4_51 (Nat.le_of_ble_eq_true rfl) rfl rfl (by omega) (by omega) rfl rfl rfl (by rw [dpl_65]; omega) (by rw [dpl_24]; omega) ?_
  refine k_aload_n hK ti_116_15 rfl ?_
  refine k_iconst hK ti_116_16 kI_0 ?_
  refine k_aload_n hK ti_116_17 rfl ?_
  refine k_get hK ti_116_18 ow_116 fd_4_16 (by omega) rfl rfl ?_
  refine k_iconst hK ti_116_21 kI_0 ?_
  refine k_aload_n hK ti_116_22 rfl ?_
  refine k_get hK ti_116_23 ow_116 fd_4_16 (by omega) rfl rfl ?_
  refine k_alen hK ti_116_26 rfl (by omega) (by omega) dpl_25 ?_
  refine k_copy hK 0 0 60 ti_116_27 ow_116 nt_4_51 (Nat.le_of_ble_eq_true rfl) rfl rfl (by omega) (by omega) rfl rfl rfl (by rw [dpl_66]; omega) (by rw [dpl_25]; omega) ?_
  refine k_aload_n hK ti_116_30 rfl ?_
  refine k_iload_n hK ti_116_31 rfl ?_
  refine k_put hK ti_116_32 ow_116 fd_4_100 (by omega) rfl rfl ?_
  refine k_return hK ti_116_35 rk_116 mc_116 ms_116 (Nat.le_of_ble_eq_true rfl) (Nat.le_of_ble_eq_true rfl) ?_
  exact h

set_option maxRecDepth 100000 in
set_option maxHeartbeats 4000000 in
theorem sp_X4_foresee {X : dp_X} {d n : Nat} {M : dp_M} {o : Int64} {Q : dp_Q} (h65 : 65 ≤ n) {s : GSt} {l : LSt} (x y : Int32) (hn : n = 65) (hG : RG M s) (hL : RLt M l) (h : ∀ M', RA M M' (fc_foresee s l x y) → Q (.inl (some (.int (u_r (fc_foresee s l x y))))) M' o) : dp_run X (d + 9 + 1) 117 [.ref 22, .int x, .int y] n M o Q := by
  apply k_run
  intro K hK
  rw [mL_117]
  show K 0 [some (.ref 22), some (.int x), some (.int y), none, none, none, none] [] n 0 0 M o
  have hA16 := hG.1.1
  have hC6 := hG.1.2.1
  subst hn
  refine k_aload_n hK ti_117_0 rfl ?_
  refine k_iconst hK ti_117_1 kI_0 ?_
  refine k_put hK ti_117_2 ow_117 fd_4_19 (by omega) rfl rfl ?_
  have hF : Fr wR M (dp_up M 22 0 (nI 0)) := Fr.up0 _ (Fr.refl _ _)
  replace hG := hG.up0 (nI 0)
  replace hL := hL.up0 (nI 0)
  have h0 : dp_up M 22 0 (nI 0) 22 0 = nI 0 := dp_up_s _ _ _ _
  generalize hM9 : dp_up M 22 0 (nI 0) = M9 at hF hG hL h0 ⊢
  clear hM9
  refine k_iload_n hK ti_117_5 rfl ?_
  refine k_iconst hK ti_117_6 kI_1 ?_
  refine k_bipush hK ti_117_7 kB_30 ?_
  refine k_callS hK (as := [.int _, .int _, .int _]) (st' := []) ti_117_9 ow_117 iv_4_26 mc_117 ms_117 rfl rfl (by omega) (Nat.le_of_ble_eq_true rfl) (Nat.le_of_ble_eq_true rfl) (Nat.le_of_ble_eq_true rfl) (Nat.le_of_ble_eq_true rfl) ?_
  refine sp_X4_isIn (by omega) _ _ _ ?_
  refine kb_ne hK ti_117_12 jt_12_9 (fun c_12 => ?_) (fun c_12 => ?_)
  · have e : fc_foresee s l x y = bad 1 2 s l := by unfold fc_foresee; simp only [c_12]; rfl
    refine k_aload_n hK ti_117_15 rfl ?_
    refine k_iconst hK ti_117_16 kI_1 ?_
    refine k_callV hK (as := [.int _]) (st' := []) ti_117_17 ow_117 iv_4_40 mc_117 ms_117 rfl rfl (by omega) (Nat.le_of_ble_eq_true rfl) (Nat.le_of_ble_eq_true rfl) (Nat.le_of_ble_eq_true rfl) (Nat.le_of_ble_eq_true rfl) (by omega) rfl ?_
    refine sp_X4_fail (by omega) _ ?_
    refine k_ireturn hK ti_117_20 rk_117 mc_117 ms_117 (Nat.le_of_ble_eq_true rfl) (Nat.le_of_ble_eq_true rfl) ?_
    rw [e] at h
    exact h _ (RA.bad rfl hF hG hL)
  · obtain ⟨k, hl1_k, hl_k, rfl⟩ := isin_n c_12 (by decide) (by decide)
    have hcl_k := nI_clamp (show k < 2 ^ 31 by omega)
    refine k_aload_n hK ti_117_21 rfl ?_
    refine k_iload_n hK ti_117_22 rfl ?_
    refine k_callV hK (as := [.int _]) (st' := []) ti_117_23 ow_117 iv_4_64 mc_117 ms_117 rfl rfl (by omega) (Nat.le_of_ble_eq_true rfl) (Nat.le_of_ble_eq_true rfl) (Nat.le_of_ble_eq_true rfl) (Nat.le_of_ble_eq_true rfl) (by omega) rfl ?_
    refine sp_X4_isClient (by omega) _ hG ?_
    refine kb_ne hK ti_117_26 jt_26_9 (fun c_26 => ?_) (fun c_26 => ?_)
    · have e : fc_foresee s l (nI k) y = bad 2 0 s l := by unfold fc_foresee; simp only [c_12, hcl_k, is_f c_26] <;> rfl
      refine k_aload_n hK ti_117_29 rfl ?_
      refine k_iconst hK ti_117_30 kI_2 ?_
      refine k_callV hK (as := [.int _]) (st' := []) ti_117_31 ow_117 iv_4_40 mc_117 ms_117 rfl rfl (by omega) (Nat.le_of_ble_eq_true rfl) (Nat.le_of_ble_eq_true rfl) (Nat.le_of_ble_eq_true rfl) (Nat.le_of_ble_eq_true rfl) (by omega) rfl ?_
      refine sp_X4_fail (by omega) _ ?_
      refine k_ireturn hK ti_117_34 rk_117 mc_117 ms_117 (Nat.le_of_ble_eq_true rfl) (Nat.le_of_ble_eq_true rfl) ?_
      rw [e] at h
      exact h _ (RA.bad rfl hF hG hL)
    · obtain ⟨c, hx_c⟩ := is_t c_26
      obtain ⟨hl_c, rfl⟩ := ix_some hx_c (by omega)
      refine k_aload_n hK ti_117_35 rfl ?_
      refine k_get hK ti_117_36 ow_117 fd_4_13 (by omega) rfl rfl ?_
      refine k_clone hK ti_117_39 ow_117 nt_4_131 mc_117 ms_117 (Nat.le_of_ble_eq_true rfl) rfl (by omega) (by omega) (by omega) dpl_24 dpl_65 (Nat.le_of_ble_eq_true rfl) (Nat.le_of_ble_eq_true rfl) rfl rfl ?_
      refine k_cast hK ti_117_42 ow_117 rfl (by omega) ?_
      refine k_astore_n hK (L' := [some (.ref 22), some (.int _), some (.int _), some (.ref 65), none, none, none]) ti_117_45 rfl ?_
      refine k_aload_n hK ti_117_46 rfl ?_
      refine k_get hK ti_117_47 ow_117 fd_4_16 (by omega) rfl rfl ?_
      refine k_clone hK ti_117_50 ow_117 nt_4_131 mc_117 ms_117 (Nat.le_of_ble_eq_true rfl) rfl (by omega) (by omega) (by omega) dpl_25 dpl_66 (Nat.le_of_ble_eq_true rfl) (Nat.le_of_ble_eq_true rfl) rfl rfl ?_
      refine k_cast hK ti_117_53 ow_117 rfl (by omega) ?_
      refine k_astore hK (L' := [some (.ref 22), some (.int _), some (.int _), some (.ref 65), some (.ref 66), none, none]) ti_117_56 rfl ?_
      have hGo := hG
      have hLo := hL
      replace hG := RG_cln hG
      replace hL := RLt_cln hL
      refine k_aload_n hK ti_117_58 rfl ?_
      refine k_geti hK (l_rnd l) ti_117_59 ow_117 fd_4_100 (by omega) rfl rfl hL.2.2.2 ?_
      refine k_istore hK (L' := [some (.ref 22), some (.int _), some (.int _), some (.ref 65), some (.ref 66), some (.int _), none]) ti_117_62 rfl ?_
      refine k_aload_n hK ti_117_64 rfl ?_
      refine k_iload_n hK ti_117_65 rfl ?_
      refine k_callV hK (as := [.int _]) (st' := []) ti_117_66 ow_117 iv_4_107 mc_117 ms_117 rfl rfl (by omega) (Nat.le_of_ble_eq_true rfl) (Nat.le_of_ble_eq_true rfl) (Nat.le_of_ble_eq_true rfl) (Nat.le_of_ble_eq_true rfl) (by omega) rfl ?_
      refine sp_X4_roundsOn (by omega) k hG hL (by omega) (fun M2 hF1 hG hL => ?_)
      refine k_pop hK ti_117_69 rfl ?_
      refine k_aload_n hK ti_117_70 rfl ?_
      refine k_iload_n hK ti_117_71 rfl ?_
      refine k_iconst hK ti_117_72 kI_0 ?_
      refine k_callV hK (as := [.int _, .int _]) (st' := []) ti_117_73 ow_117 iv_4_61 mc_117 ms_117 rfl rfl (by omega) (Nat.le_of_ble_eq_true rfl) (Nat.le_of_ble_eq_true rfl) (Nat.le_of_ble_eq_true rfl) (Nat.le_of_ble_eq_true rfl) (by omega) rfl ?_
      refine sp_X4_cl (by omega) c 0 (by omega) (by omega) (k_aftv ((l_coin (roundsL s l k) c)) ((hL.2.2.1 c (by omega)).1) ?_)
      refine k_istore hK (L' := [some (.ref 22), some (.int _), some (.int _), some (.ref 65), some (.ref 66), some (.int _), some (.int _)]) ti_117_76 rfl ?_
      refine k_aload_n hK ti_117_78 rfl ?_
      refine k_aload_n hK ti_117_79 rfl ?_
      refine k_aload hK ti_117_80 rfl ?_
      refine k_iload hK ti_117_82 rfl ?_
      refine k_callV hK (as := [.ref 65, .ref 66, .int _]) (st' := []) ti_117_84 ow_117 iv_4_136 mc_117 ms_117 rfl rfl (by omega) (Nat.le_of_ble_eq_true rfl) (Nat.le_of_ble_eq_true rfl) (Nat.le_of_ble_eq_true rfl) (Nat.le_of_ble_eq_true rfl) (by omega) rfl ?_
      refine sp_X4_bringBack (by omega) _ (by omega) ?_
      refine k_iload hK ti_117_87 rfl ?_
      refine k_ireturn hK ti_117_89 rk_117 mc_117 ms_117 (Nat.le_of_ble_eq_true rfl) (Nat.le_of_ble_eq_true rfl) ?_
      have e : fc_foresee s l (nI k) (nI c) = ok (l_coin (roundsL s l k) c) s l := by unfold fc_foresee; simp only [c_12, hcl_k, hx_c] <;> rfl
      rw [e] at h
      exact h _ (RA_back hF hGo hLo h0 hF1)

set_option maxRecDepth 100000 in
set_option maxHeartbeats 4000000 in
theorem sp_X4_until {X : dp_X} {d n : Nat} {M : dp_M} {o : Int64} {Q : dp_Q} (h65 : 65 ≤ n) {s : GSt} {l : LSt} (hn : n = 65) (hG : RG M s) (hL : RLt M l) (h : ∀ M', RA M M' (ok (oI (unt s l)) s l) → Q (.inl (some (.int (oI (unt s l))))) M' o) : dp_run X (d + 8 + 1) 119 [.ref 22] n M o Q := by
  apply k_run
  intro K hK
  rw [mL_119]
  show K 0 [some (.ref 22), none, none, none, none] [] n 0 0 M o
  subst hn
  have hA16 := hG.1.1
  have hC6 := hG.1.2.1
  refine k_aload_n hK ti_119_0 rfl ?_
  refine k_iconst hK ti_119_1 kI_0 ?_
  refine k_put hK ti_119_2 ow_119 fd_4_19 (by omega) rfl rfl ?_
  have hF : Fr wR M (dp_up M 22 0 (nI 0)) := Fr.up0 _ (Fr.refl _ _)
  replace hG := hG.up0 (nI 0)
  replace hL := hL.up0 (nI 0)
  have h0 : dp_up M 22 0 (nI 0) 22 0 = nI 0 := dp_up_s _ _ _ _
  generalize hM9 : dp_up M 22 0 (nI 0) = M9 at hF hG hL h0 ⊢
  clear hM9
  refine k_aload_n hK ti_119_5 rfl ?_
  refine k_get hK ti_119_6 ow_119 fd_4_13 (by omega) rfl rfl ?_
  refine k_clone hK ti_119_9 ow_119 nt_4_131 mc_119 ms_119 (Nat.le_of_ble_eq_true rfl) rfl (by omega) (by omega) (by omega) dpl_24 dpl_65 (Nat.le_of_ble_eq_true rfl) (Nat.le_of_ble_eq_true rfl) rfl rfl ?_
  refine k_cast hK ti_119_12 ow_119 rfl (by omega) ?_
  refine k_astore_n hK (L' := [some (.ref 22), some (.ref 65), none, none, none]) ti_119_15 rfl ?_
  refine k_aload_n hK ti_119_16 rfl ?_
  refine k_get hK ti_119_17 ow_119 fd_4_16 (by omega) rfl rfl ?_
  refine k_clone hK ti_119_20 ow_119 nt_4_131 mc_119 ms_119 (Nat.le_of_ble_eq_true rfl) rfl (by omega) (by omega) (by omega) dpl_25 dpl_66 (Nat.le_of_ble_eq_true rfl) (Nat.le_of_ble_eq_true rfl) rfl rfl ?_
  refine k_cast hK ti_119_23 ow_119 rfl (by omega) ?_
  refine k_astore_n hK (L' := [some (.ref 22), some (.ref 65), some (.ref 66), none, none]) ti_119_26 rfl ?_
  have hGo := hG
  have hLo := hL
  replace hG := RG_cln hG
  replace hL := RLt_cln hL
  refine k_aload_n hK ti_119_27 rfl ?_
  refine k_geti hK (l_rnd l) ti_119_28 ow_119 fd_4_100 (by omega) rfl rfl hL.2.2.2 ?_
  refine k_istore_n hK (L' := [some (.ref 22), some (.ref 65), some (.ref 66), some (.int _), none]) ti_119_31 rfl ?_
  refine k_iconst hK ti_119_32 kI_0 ?_
  refine k_istore hK (L' := [some (.ref 22), some (.ref 65), some (.ref 66), some (.int _), some (.int _)]) ti_119_33 rfl ?_
  have loop : ∀ (f i : Nat) (M' : dp_M), i ≤ 41 → 41 - i < f → (Fr wL (cln M9) M') → (RG M' s) → (RLt M' (roundsL s l i)) → (∀ k, k < i → sht s (roundsL s l k) = false) → K 35 [some (.ref 22), some (.ref 65), some (.ref 66), some (.int (l_rnd l)), some (.int (nI i))] [] 67 2 284 M' o := by
    intro f
    induction f with
    | zero => intro i M' h1 h2; omega
    | succ f ih =>
      intro i M' h1 h2 hF1 hG hL h3
      refine k_iload hK ti_119_35 rfl ?_
      refine k_bipush hK ti_119_37 kB_40 ?_
      refine kn_gt hK (by omega) (by omega) ti_119_39 jt_39_21 (fun c_39 => ?_) (fun c_39 => ?_)
      · obtain rfl : i = 41 := by omega
        have e : unt s l = none := frst_none h3
        refine k_aload_n hK ti_119_60 rfl ?_
        refine k_aload_n hK ti_119_61 rfl ?_
        refine k_aload_n hK ti_119_62 rfl ?_
        refine k_iload_n hK ti_119_63 rfl ?_
        refine k_callV hK (as := [.ref 65, .ref 66, .int _]) (st' := []) ti_119_64 ow_119 iv_4_136 mc_119 ms_119 rfl rfl (by omega) (Nat.le_of_ble_eq_true rfl) (Nat.le_of_ble_eq_true rfl) (Nat.le_of_ble_eq_true rfl) (Nat.le_of_ble_eq_true rfl) (by omega) rfl ?_
        refine sp_X4_bringBack (by omega) _ (by omega) ?_
        refine k_iload hK ti_119_67 rfl ?_
        refine k_bipush hK ti_119_69 kB_40 ?_
        refine kn_le hK (by omega) (by omega) ti_119_71 jt_71_7 (fun c_71 => ?_) (fun c_71 => ?_)
        · refine k_iconst hK ti_119_74 kI_m1 ?_
          refine k_goto hK ti_119_75 jt_75_5 ?_
          refine k_ireturn hK ti_119_80 rk_119 mc_119 ms_119 (Nat.le_of_ble_eq_true rfl) (Nat.le_of_ble_eq_true rfl) ?_
          rw [e] at h
          exact h _ (RA_back hF hGo hLo h0 hF1)
        · exfalso; omega
      · refine k_aload_n hK ti_119_42 rfl ?_
        refine k_callV hK (as := []) (st' := []) ti_119_43 ow_119 iv_4_140 mc_119 ms_119 rfl rfl (by omega) (Nat.le_of_ble_eq_true rfl) (Nat.le_of_ble_eq_true rfl) (Nat.le_of_ble_eq_true rfl) (Nat.le_of_ble_eq_true rfl) (by omega) rfl ?_
        refine sp_X4_isShort (by omega) hG hL ?_
        refine kb_ne hK ti_119_46 jt_46_14 (fun c_46 => ?_) (fun c_46 => ?_)
        · refine k_aload_n hK ti_119_49 rfl ?_
          refine k_callV hK (as := []) (st' := []) ti_119_50 ow_119 iv_4_103 mc_119 ms_119 rfl rfl (by omega) (Nat.le_of_ble_eq_true rfl) (Nat.le_of_ble_eq_true rfl) (Nat.le_of_ble_eq_true rfl) (Nat.le_of_ble_eq_true rfl) (by omega) rfl ?_
          refine sp_X4_roundOn (by omega) hG hL (fun M2 hF2 hG hL => ?_)
          refine k_pop hK ti_119_53 rfl ?_
          refine k_iinc hK (L' := [some (.ref 22), some (.ref 65), some (.ref 66), some (.int _), some (.int (nI (i + 1)))]) ti_119_54 rfl (by rw [kI_1, nI_add]) rfl ?_
          refine k_goto hK ti_119_57 jt_57_m22 ?_
          exact ih (i + 1) _ (by omega) (by omega) (hF1.trans hF2) hG hL (fun k hk => by by_cases e2 : k = i; (subst e2; exact c_46); exact h3 k (by omega))
        · have e : unt s l = some i := frst_hit (by omega) c_46 h3
          refine k_aload_n hK ti_119_60 rfl ?_
          refine k_aload_n hK ti_119_61 rfl ?_
          refine k_aload_n hK ti_119_62 rfl ?_
          refine k_iload_n hK ti_119_63 rfl ?_
          refine k_callV hK (as := [.ref 65, .ref 66, .int _]) (st' := []) ti_119_64 ow_119 iv_4_136 mc_119 ms_119 rfl rfl (by omega) (Nat.le_of_ble_eq_true rfl) (Nat.le_of_ble_eq_true rfl) (Nat.le_of_ble_eq_true rfl) (Nat.le_of_ble_eq_true rfl) (by omega) rfl ?_
          refine sp_X4_bringBack (by omega) _ (by omega) ?_
          refine k_iload hK ti_119_67 rfl ?_
          refine k_bipush hK ti_119_69 kB_40 ?_
          refine kn_le hK (by omega) (by omega) ti_119_71 jt_71_7 (fun c_71 => ?_) (fun c_71 => ?_)
          · exfalso; omega
          · refine k_iload hK ti_119_78 rfl ?_
            refine k_ireturn hK ti_119_80 rk_119 mc_119 ms_119 (Nat.le_of_ble_eq_true rfl) (Nat.le_of_ble_eq_true rfl) ?_
            rw [e] at h
            exact h _ (RA_back hF hGo hLo h0 hF1)
  exact loop (41 - 0 + 1) 0 _ (by omega) (by omega) (Fr.refl _ _) hG hL (fun k hk => absurd hk (by omega))

set_option maxRecDepth 100000 in
set_option maxHeartbeats 4000000 in
theorem sp_X4_advise {X : dp_X} {d n : Nat} {M : dp_M} {o : Int64} {Q : dp_Q} (h65 : 65 ≤ n) {s : GSt} {l : LSt} (x : Int32) (hG : RG M s) (hL : RLt M l) (h : ∀ M', RA M M' (fc_advise s l x) → Q (.inl (some (.int (u_r (fc_advise s l x))))) M' o) : dp_run X (d + 6 + 1) 115 [.ref 22, .int x] n M o Q := by
  apply k_run
  intro K hK
  rw [mL_115]
  show K 0 [some (.ref 22), some (.int x), none, none, none, none, none] [] n 0 0 M o
  have hA16 := hG.1.1
  have hC6 := hG.1.2.1
  refine k_aload_n hK ti_115_0 rfl ?_
  refine k_iconst hK ti_115_1 kI_0 ?_
  refine k_put hK ti_115_2 ow_115 fd_4_19 (by omega) rfl rfl ?_
  have hF : Fr wR M (dp_up M 22 0 (nI 0)) := Fr.up0 _ (Fr.refl _ _)
  replace hG := hG.up0 (nI 0)
  replace hL := hL.up0 (nI 0)
  have h0 : dp_up M 22 0 (nI 0) 22 0 = nI 0 := dp_up_s _ _ _ _
  generalize hM9 : dp_up M 22 0 (nI 0) = M9 at hF hG hL h0 ⊢
  clear hM9
  refine k_aload_n hK ti_115_5 rfl ?_
  refine k_iload_n hK ti_115_6 rfl ?_
  refine k_callV hK (as := [.int _]) (st' := []) ti_115_7 ow_115 iv_4_64 mc_115 ms_115 rfl rfl (by omega) (Nat.le_of_ble_eq_true rfl) (Nat.le_of_ble_eq_true rfl) (Nat.le_of_ble_eq_true rfl) (Nat.le_of_ble_eq_true rfl) (by omega) rfl ?_
  refine sp_X4_isClient (by omega) _ hG ?_
  refine kb_ne hK ti_115_10 jt_10_9 (fun c_10 => ?_) (fun c_10 => ?_)
  · have e : fc_advise s l x = bad 1 0 s l := by simp only [fc_advise, is_f c_10]
    refine k_aload_n hK ti_115_13 rfl ?_
    refine k_iconst hK ti_115_14 kI_1 ?_
    refine k_callV hK (as := [.int _]) (st' := []) ti_115_15 ow_115 iv_4_40 mc_115 ms_115 rfl rfl (by omega) (Nat.le_of_ble_eq_true rfl) (Nat.le_of_ble_eq_true rfl) (Nat.le_of_ble_eq_true rfl) (Nat.le_of_ble_eq_true rfl) (by omega) rfl ?_
    refine sp_X4_fail (by omega) _ ?_
    refine k_ireturn hK ti_115_18 rk_115 mc_115 ms_115 (Nat.le_of_ble_eq_true rfl) (Nat.le_of_ble_eq_true rfl) ?_
    rw [e] at h
    exact h _ (RA.bad rfl hF hG hL)
  · obtain ⟨c, hx_c⟩ := is_t c_10
    obtain ⟨hl_c, rfl⟩ := ix_some hx_c (by omega)
    have hm5 := hG.1.2.2.2.2.2.1 c (by omega)
    have hW := hG.1
    refine k_aload_n hK ti_115_19 rfl ?_
    refine k_iload_n hK ti_115_20 rfl ?_
    refine k_iconst hK ti_115_21 kI_1 ?_
    refine k_callV hK (as := [.int _, .int _]) (st' := []) ti_115_22 ow_115 iv_4_61 mc_115 ms_115 rfl rfl (by omega) (Nat.le_of_ble_eq_true rfl) (Nat.le_of_ble_eq_true rfl) (Nat.le_of_ble_eq_true rfl) (Nat.le_of_ble_eq_true rfl) (by omega) rfl ?_
    refine sp_X4_cl (by omega) c 1 (by omega) (by omega) (k_aftv ((nI (g_many s c))) (hG.2.2.2.2.2.2.1 c (by omega)) ?_)
    refine k_istore_n hK (L' := [some (.ref 22), some (.int _), some (.int _), none, none, none, none]) ti_115_25 rfl ?_
    refine k_iload_n hK ti_115_26 rfl ?_
    refine k_iconst hK ti_115_27 kI_5 ?_
    refine kn_ne hK (by omega) (by omega) ti_115_28 jt_28_5 (fun c_28 => ?_) (fun c_28 => ?_)
    · have e : fc_advise s l (nI c) = ok (-1) s l := by simp only [fc_advise, hx_c, advr, if_pos c_28]
      refine k_iconst hK ti_115_31 kI_m1 ?_
      refine k_ireturn hK ti_115_32 rk_115 mc_115 ms_115 (Nat.le_of_ble_eq_true rfl) (Nat.le_of_ble_eq_true rfl) ?_
      rw [e] at h
      exact h _ (RA.ok hF hG hL h0)
    · have e : fc_advise s l (nI c) = ok (adv s l c 20).1 s l := by simp only [fc_advise, hx_c, advr, if_neg c_28]
      refine k_iconst hK ti_115_33 kI_m1 ?_
      refine k_istore_n hK (L' := [some (.ref 22), some (.int _), some (.int _), some (.int _), none, none, none]) ti_115_34 rfl ?_
      refine k_iconst hK ti_115_35 kI_m1 ?_
      refine k_istore hK (L' := [some (.ref 22), some (.int _), some (.int _), some (.int _), some (.int _), none, none]) ti_115_36 rfl ?_
      refine k_iconst hK ti_115_38 kI_0 ?_
      refine k_istore hK (L' := [some (.ref 22), some (.int _), some (.int _), some (.int _), some (.int _), some (.int _), none]) ti_115_39 rfl ?_
      have loop : ∀ (f i : Nat) (u : Option Value) (M' : dp_M), i ≤ 20 → 20 - i < f → (Fr wR M M') → (RG M' s) → (RLt M' l) → (M' 22 0 = nI 0) → K 41 [some (.ref 22), some (.int (nI c)), some (.int (nI (g_many s c))), some (.int ((adv s l c i).1)), some (.int ((adv s l c i).2)), some (.int (nI i)), u] [] n 0 0 M' o := by
        intro f
        induction f with
        | zero => intro i u M' h1 h2; omega
        | succ f ih =>
          intro i u M' h1 h2 hF hG hL h0
          refine k_iload hK ti_115_41 rfl ?_
          refine k_bipush hK ti_115_43 kB_20 ?_
          refine kn_ge hK (by omega) (by omega) ti_115_45 jt_45_93 (fun c_45 => ?_) (fun c_45 => ?_)
          · refine k_aload_n hK ti_115_48 rfl ?_
            refine k_iload_n hK ti_115_49 rfl ?_
            refine k_iload hK ti_115_50 rfl ?_
            refine k_callV hK (as := [.int _, .int _]) (st' := []) ti_115_52 ow_115 iv_4_67 mc_115 ms_115 rfl rfl (by omega) (Nat.le_of_ble_eq_true rfl) (Nat.le_of_ble_eq_true rfl) (Nat.le_of_ble_eq_true rfl) (Nat.le_of_ble_eq_true rfl) (by omega) rfl ?_
            refine sp_X4_wish (by omega) c i hG (by omega) (by omega) ?_
            rcases hwi : wsh s c i with _ | p
            · refine k_iconst hK ti_115_55 kI_m1 ?_
              refine k_icmp_eq hK ti_115_56 jt_56_6 (fun c_56 => ?_) (fun c_56 => ?_)
              · have hcA : g_nC (adds s c i) = g_nC s := rfl
                have hnA : g_nA (adds s c i) = g_nA s := rfl
                refine k_aload_n hK ti_115_62 rfl ?_
                refine k_iload_n hK ti_115_63 rfl ?_
                refine k_iconst hK ti_115_64 kI_5 ?_
                refine k_iload_n hK ti_115_65 rfl ?_
                refine k_iadd hK (z := (nI (5 + g_many s c))) ti_115_66 (nI_add _ _) ?_
                refine k_iload hK ti_115_67 rfl ?_
                refine k_callV hK (as := [.int _, .int _, .int _]) (st' := []) ti_115_69 ow_115 iv_4_57 mc_115 ms_115 rfl rfl (by omega) (Nat.le_of_ble_eq_true rfl) (Nat.le_of_ble_eq_true rfl) (Nat.le_of_ble_eq_true rfl) (Nat.le_of_ble_eq_true rfl) (by omega) rfl ?_
                refine sp_X4_put (by omega) c (5 + g_many s c) _ (by omega) (by omega) ?_
                refine k_aload_n hK ti_115_72 rfl ?_
                refine k_iload_n hK ti_115_73 rfl ?_
                refine k_iconst hK ti_115_74 kI_1 ?_
                refine k_iload_n hK ti_115_75 rfl ?_
                refine k_iconst hK ti_115_76 kI_1 ?_
                refine k_iadd hK (z := (nI (g_many s c + 1))) ti_115_77 (nI_add _ _) ?_
                refine k_callV hK (as := [.int _, .int _, .int _]) (st' := []) ti_115_78 ow_115 iv_4_57 mc_115 ms_115 rfl rfl (by omega) (Nat.le_of_ble_eq_true rfl) (Nat.le_of_ble_eq_true rfl) (Nat.le_of_ble_eq_true rfl) (Nat.le_of_ble_eq_true rfl) (by omega) rfl ?_
                refine sp_X4_put (by omega) c 1 _ (by omega) (by omega) ?_
                have hF2 := (hF.up (h := 25) (k := 10 * c + (5 + g_many s c)) (x := nI i) (Or.inl (by decide))).up (h := 25) (k := 10 * c + 1) (x := nI (g_many s c + 1)) (Or.inl (by decide))
                replace hG := RG_adds hG (c := c) (by omega) c_45 (by omega)
                replace hL := hL
                have hL := RLt_adds hL (c := c) (i := g_many s c) (x := nI i) (y := nI (g_many s c + 1)) (by omega) (by omega)
                have h02 : (dp_up (dp_up M' 25 (10 * c + (5 + g_many s c)) (nI i)) 25 (10 * c + 1) (nI (g_many s c + 1))) 22 0 = nI 0 := by rw [dp_up_h (by decide), dp_up_h (by decide)]; exact h0
                generalize dp_up (dp_up M' 25 (10 * c + (5 + g_many s c)) (nI i)) 25 (10 * c + 1) (nI (g_many s c + 1)) = M2 at hF2 hG hL h02 ⊢
                refine k_aload_n hK ti_115_81 rfl ?_
                refine k_iload_n hK ti_115_82 rfl ?_
                refine k_iconst hK ti_115_83 kI_0 ?_
                refine k_callV hK (as := [.int _, .int _]) (st' := []) ti_115_84 ow_115 iv_4_91 mc_115 ms_115 rfl rfl (by omega) (Nat.le_of_ble_eq_true rfl) (Nat.le_of_ble_eq_true rfl) (Nat.le_of_ble_eq_true rfl) (Nat.le_of_ble_eq_true rfl) (by omega) rfl ?_
                refine sp_X4_fitAt (by omega) c 0 hG hL (by omega) (by omega) ?_
                rcases hfa : fA (adds s c i) l c 0 with _ | a
                · have e2 := tp_n hwi hfa
                  refine k_iconst hK ti_115_87 kI_m1 ?_
                  refine k_icmp_ne hK ti_115_88 jt_88_7 (fun c_88 => ?_) (fun c_88 => ?_)
                  · refine k_iconst hK ti_115_91 kI_m1 ?_
                    refine k_goto hK ti_115_92 jt_92_14 ?_
                    · rw [← e2]
                      refine k_istore hK (L' := [some (.ref 22), some (.int _), some (.int _), some (.int _), some (.int _), some (.int _), some (.int _)]) ti_115_106 rfl ?_
                      refine k_aload_n hK ti_115_108 rfl ?_
                      refine k_iload_n hK ti_115_109 rfl ?_
                      refine k_iconst hK ti_115_110 kI_1 ?_
                      refine k_iload_n hK ti_115_111 rfl ?_
                      refine k_callV hK (as := [.int _, .int _, .int _]) (st' := []) ti_115_112 ow_115 iv_4_57 mc_115 ms_115 rfl rfl (by omega) (Nat.le_of_ble_eq_true rfl) (Nat.le_of_ble_eq_true rfl) (Nat.le_of_ble_eq_true rfl) (Nat.le_of_ble_eq_true rfl) (by omega) rfl ?_
                      refine sp_X4_put (by omega) c 1 _ (by omega) (by omega) ?_
                      have hF := hF2.up (h := 25) (k := 10 * c + 1) (x := nI (g_many s c)) (Or.inl (by decide))
                      have hG := RG_unadds hG hW (by omega) (by omega)
                      have hL := RLt_unadds hL (c := c) (y := nI (g_many s c)) (by omega)
                      have h0 : (dp_up M2 25 (10 * c + 1) (nI (g_many s c))) 22 0 = nI 0 := by rw [dp_up_h (by decide)]; exact h02
                      refine k_iload hK ti_115_115 rfl ?_
                      refine k_iload hK ti_115_117 rfl ?_
                      refine k_icmp_gt hK ti_115_119 jt_119_6 (fun c_119 => ?_) (fun c_119 => ?_)
                      · have e1 := adv_t c_119
                        refine k_iload hK ti_115_125 rfl ?_
                        refine k_istore_n hK (L' := [some (.ref 22), some (.int _), some (.int _), some (.int _), some (.int _), some (.int _), some (.int _)]) ti_115_127 rfl ?_
                        refine k_iload hK ti_115_128 rfl ?_
                        refine k_istore hK (L' := [some (.ref 22), some (.int _), some (.int _), some (.int _), some (.int _), some (.int _), some (.int _)]) ti_115_130 rfl ?_
                        · refine k_eq (L' := [some (.ref 22), some (.int (nI c)), some (.int (nI (g_many s c))), some (.int ((adv s l c (i + 1)).1)), some (.int ((adv s l c (i + 1)).2)), some (.int (nI i)), some (.int (tp s l c i))]) ?_ (by simp only [e1]) rfl rfl
                          refine k_iinc hK (L' := [some (.ref 22), some (.int _), some (.int _), some (.int _), some (.int _), some (.int (nI (i + 1))), some (.int _)]) ti_115_132 rfl (by rw [kI_1, nI_add]) rfl ?_
                          refine k_goto hK ti_115_135 jt_135_m94 ?_
                          exact ih (i + 1) _ _ (by omega) (by omega) hF hG hL h0
                      · have e1 := adv_f c_119
                        refine k_goto hK ti_115_122 jt_122_10 ?_
                        · rw [← e1]
                          refine k_iinc hK (L' := [some (.ref 22), some (.int _), some (.int _), some (.int _), some (.int _), some (.int (nI (i + 1))), some (.int _)]) ti_115_132 rfl (by rw [kI_1, nI_add]) rfl ?_
                          refine k_goto hK ti_115_135 jt_135_m94 ?_
                          exact ih (i + 1) _ _ (by omega) (by omega) hF hG hL h0
                  · exact absurd rfl c_88
                · have ha := fA_lt hfa
                  have e2 := tp_s hwi hfa
                  refine k_iconst hK ti_115_87 kI_m1 ?_
                  refine k_icmp_ne hK ti_115_88 jt_88_7 (fun c_88 => ?_) (fun c_88 => ?_)
                  · exact absurd c_88 (nI_nm1 (by omega))
                  · refine k_aload_n hK ti_115_95 rfl ?_
                    refine k_iload_n hK ti_115_96 rfl ?_
                    refine k_aload_n hK ti_115_97 rfl ?_
                    refine k_iload_n hK ti_115_98 rfl ?_
                    refine k_iconst hK ti_115_99 kI_0 ?_
                    refine k_callV hK (as := [.int _, .int _]) (st' := [.int _, .ref 22]) ti_115_100 ow_115 iv_4_91 mc_115 ms_115 rfl rfl (by omega) (Nat.le_of_ble_eq_true rfl) (Nat.le_of_ble_eq_true rfl) (Nat.le_of_ble_eq_true rfl) (Nat.le_of_ble_eq_true rfl) (by omega) rfl ?_
                    refine sp_X4_fitAt (by omega) c 0 hG hL (by omega) (by omega) (k_aftv (nI a) (by rw [hfa]; rfl) ?_)
                    refine k_callV hK (as := [.int _, .int _]) (st' := []) ti_115_103 ow_115 iv_4_84 mc_115 ms_115 rfl rfl (by omega) (Nat.le_of_ble_eq_true rfl) (Nat.le_of_ble_eq_true rfl) (Nat.le_of_ble_eq_true rfl) (Nat.le_of_ble_eq_true rfl) (by omega) rfl ?_
                    refine sp_X4_scored (by omega) c a hG hL (by omega) (by omega) ?_
                    · rw [← e2]
                      refine k_istore hK (L' := [some (.ref 22), some (.int _), some (.int _), some (.int _), some (.int _), some (.int _), some (.int _)]) ti_115_106 rfl ?_
                      refine k_aload_n hK ti_115_108 rfl ?_
                      refine k_iload_n hK ti_115_109 rfl ?_
                      refine k_iconst hK ti_115_110 kI_1 ?_
                      refine k_iload_n hK ti_115_111 rfl ?_
                      refine k_callV hK (as := [.int _, .int _, .int _]) (st' := []) ti_115_112 ow_115 iv_4_57 mc_115 ms_115 rfl rfl (by omega) (Nat.le_of_ble_eq_true rfl) (Nat.le_of_ble_eq_true rfl) (Nat.le_of_ble_eq_true rfl) (Nat.le_of_ble_eq_true rfl) (by omega) rfl ?_
                      refine sp_X4_put (by omega) c 1 _ (by omega) (by omega) ?_
                      have hF := hF2.up (h := 25) (k := 10 * c + 1) (x := nI (g_many s c)) (Or.inl (by decide))
                      have hG := RG_unadds hG hW (by omega) (by omega)
                      have hL := RLt_unadds hL (c := c) (y := nI (g_many s c)) (by omega)
                      have h0 : (dp_up M2 25 (10 * c + 1) (nI (g_many s c))) 22 0 = nI 0 := by rw [dp_up_h (by decide)]; exact h02
                      refine k_iload hK ti_115_115 rfl ?_
                      refine k_iload hK ti_115_117 rfl ?_
                      refine k_icmp_gt hK ti_115_119 jt_119_6 (fun c_119 => ?_) (fun c_119 => ?_)
                      · have e1 := adv_t c_119
                        refine k_iload hK ti_115_125 rfl ?_
                        refine k_istore_n hK (L' := [some (.ref 22), some (.int _), some (.int _), some (.int _), some (.int _), some (.int _), some (.int _)]) ti_115_127 rfl ?_
                        refine k_iload hK ti_115_128 rfl ?_
                        refine k_istore hK (L' := [some (.ref 22), some (.int _), some (.int _), some (.int _), some (.int _), some (.int _), some (.int _)]) ti_115_130 rfl ?_
                        · refine k_eq (L' := [some (.ref 22), some (.int (nI c)), some (.int (nI (g_many s c))), some (.int ((adv s l c (i + 1)).1)), some (.int ((adv s l c (i + 1)).2)), some (.int (nI i)), some (.int (tp s l c i))]) ?_ (by simp only [e1]) rfl rfl
                          refine k_iinc hK (L' := [some (.ref 22), some (.int _), some (.int _), some (.int _), some (.int _), some (.int (nI (i + 1))), some (.int _)]) ti_115_132 rfl (by rw [kI_1, nI_add]) rfl ?_
                          refine k_goto hK ti_115_135 jt_135_m94 ?_
                          exact ih (i + 1) _ _ (by omega) (by omega) hF hG hL h0
                      · have e1 := adv_f c_119
                        refine k_goto hK ti_115_122 jt_122_10 ?_
                        · rw [← e1]
                          refine k_iinc hK (L' := [some (.ref 22), some (.int _), some (.int _), some (.int _), some (.int _), some (.int (nI (i + 1))), some (.int _)]) ti_115_132 rfl (by rw [kI_1, nI_add]) rfl ?_
                          refine k_goto hK ti_115_135 jt_135_m94 ?_
                          exact ih (i + 1) _ _ (by omega) (by omega) hF hG hL h0
              · exact absurd rfl c_56
            · have hp := (frst_some hwi).1
              have e1 : adv s l c (i + 1) = adv s l c i := adv_f (by rw [tp_w hwi]; exact adv_ge s l c i)
              refine k_iconst hK ti_115_55 kI_m1 ?_
              refine k_icmp_eq hK ti_115_56 jt_56_6 (fun c_56 => ?_) (fun c_56 => ?_)
              · exact absurd c_56 (nI_nm1 (by omega))
              · refine k_goto hK ti_115_59 jt_59_73 ?_
                · rw [← e1]
                  refine k_iinc hK (L' := [some (.ref 22), some (.int _), some (.int _), some (.int _), some (.int _), some (.int (nI (i + 1))), u]) ti_115_132 rfl (by rw [kI_1, nI_add]) rfl ?_
                  refine k_goto hK ti_115_135 jt_135_m94 ?_
                  exact ih (i + 1) _ _ (by omega) (by omega) hF hG hL h0
          · obtain rfl : i = 20 := by omega
            refine k_iload_n hK ti_115_138 rfl ?_
            refine k_ireturn hK ti_115_139 rk_115 mc_115 ms_115 (Nat.le_of_ble_eq_true rfl) (Nat.le_of_ble_eq_true rfl) ?_
            rw [e] at h
            exact h _ (RA.ok hF hG hL h0)
      exact loop (20 - 0 + 1) 0 _ _ (by omega) (by omega) hF hG hL h0
