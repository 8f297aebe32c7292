/-! The reference: wishes, what would be. (written by wip/whole/ref6.py) -/
set_option maxRecDepth 100000 in
set_option maxHeartbeats 4000000 in
theorem sp_X4_wish {X : dp_X} {d n : Nat} {M : dp_M} {o : Int64} {Q : dp_Q} (h65 : 65 ≤ n) {s : GSt} (c x : Nat) (hG : RG M s) (hc : c < g_nC s) (hx : x < 20) (h : Q (.inl (some (.int (oI (wsh s c x))))) M o) : dp_run X (d + 1 + 1) 83 [.ref 22, .int (nI c), .int (nI x)] n M o Q := by
  apply k_run
  intro K hK
  rw [mL_83]
  show K 0 [some (.ref 22), some (.int (nI c)), some (.int (nI x)), none] [] n 0 0 M o
  have hA16 := hG.1.1
  have hC6 := hG.1.2.1
  have hm5 := hG.1.2.2.2.2.2.1 c (by omega)
  refine k_iconst hK ti_83_0 kI_0 ?_
  refine k_istore_n hK (L' := [some (.ref 22), some (.int _), some (.int _), some (.int _)]) ti_83_1 rfl ?_
  have loop : ∀ (f i : Nat), i ≤ (g_many s c) → (g_many s c) - i < f → (∀ k, k < i → (g_wish s c k == x) = false) → K 2 [some (.ref 22), some (.int (nI c)), some (.int (nI x)), some (.int (nI i))] [] n 0 0 M o := by
    intro f
    induction f with
    | zero => intro i h1 h2; omega
    | succ f ih =>
      intro i h1 h2 h3
      refine k_iload_n hK ti_83_2 rfl ?_
      refine k_aload_n hK ti_83_3 rfl ?_
      refine k_iload_n hK ti_83_4 rfl ?_
      refine k_iconst hK ti_83_5 kI_1 ?_
      refine k_callV hK (as := [.int _, .int _]) (st' := [.int _]) ti_83_6 ow_83 iv_4_61 mc_83 ms_83 rfl rfl (by omega) (Nat.le_of_ble_eq_true rfl) (Nat.le_of_ble_eq_true rfl) (Nat.le_of_ble_eq_true rfl) (Nat.le_of_ble_eq_true rfl) (by omega) rfl ?_
      refine sp_X4_cl (by omega) c 1 (by omega) (by omega) (k_aftv ((nI (g_many s c))) (hG.2.2.2.2.2.2.1 c (by omega)) ?_)
      refine kn_ge hK (by omega) (by omega) ti_83_9 jt_9_23 (fun c_9 => ?_) (fun c_9 => ?_)
      · have hw20 := hG.1.2.2.2.2.2.2 c i (by omega) c_9
        refine k_aload_n hK ti_83_12 rfl ?_
        refine k_iload_n hK ti_83_13 rfl ?_
        refine k_iconst hK ti_83_14 kI_5 ?_
        refine k_iload_n hK ti_83_15 rfl ?_
        refine k_iadd hK (z := (nI (5 + i))) ti_83_16 (nI_add _ _) ?_
        refine k_callV hK (as := [.int _, .int _]) (st' := []) ti_83_17 ow_83 iv_4_61 mc_83 ms_83 rfl rfl (by omega) (Nat.le_of_ble_eq_true rfl) (Nat.le_of_ble_eq_true rfl) (Nat.le_of_ble_eq_true rfl) (Nat.le_of_ble_eq_true rfl) (by omega) rfl ?_
        refine sp_X4_cl (by omega) c (5 + i) (by omega) (by omega) (k_aftv ((nI (g_wish s c i))) (hG.2.2.2.2.2.2.2.1 c i (by omega) (by omega)) ?_)
        refine k_iload_n hK ti_83_20 rfl ?_
        refine kn_ne hK (by omega) (by omega) ti_83_21 jt_21_5 (fun c_21 => ?_) (fun c_21 => ?_)
        · have e : wsh s c x = some i := frst_hit c_9 (by simp [*]) h3
          rw [e] at h
          refine k_iload_n hK ti_83_24 rfl ?_
          refine k_ireturn hK ti_83_25 rk_83 mc_83 ms_83 (Nat.le_of_ble_eq_true rfl) (Nat.le_of_ble_eq_true rfl) ?_
          exact h
        · refine k_iinc hK (L' := [some (.ref 22), some (.int _), some (.int _), some (.int (nI (i + 1)))]) ti_83_26 rfl (by rw [kI_1, nI_add]) rfl ?_
          refine k_goto hK ti_83_29 jt_29_m27 ?_
          exact ih (i + 1) (by omega) (by omega) (fun k hk => by by_cases e : k = i; (subst e; simp [*]); exact h3 k (by omega))
      · obtain rfl : i = (g_many s c) := by omega
        have e : wsh s c x = none := frst_none h3
        rw [e] at h
        refine k_iconst hK ti_83_32 kI_m1 ?_
        refine k_ireturn hK ti_83_33 rk_83 mc_83 ms_83 (Nat.le_of_ble_eq_true rfl) (Nat.le_of_ble_eq_true rfl) ?_
        exact h
  exact loop ((g_many s c) - 0 + 1) 0 (by omega) (by omega) (fun k hk => absurd hk (by omega))

set_option maxRecDepth 100000 in
set_option maxHeartbeats 4000000 in
theorem sp_X4_isShort {X : dp_X} {d n : Nat} {M : dp_M} {o : Int64} {Q : dp_Q} (h65 : 65 ≤ n) {s : GSt} {l : LSt} (hG : RG M s) (hL : RLt M l) (h : Q (.inl (some (.int (bl (sht s l))))) M o) : dp_run X (d + 6 + 1) 118 [.ref 22] n M o Q := by
  apply k_run
  intro K hK
  rw [mL_118]
  show K 0 [some (.ref 22), none] [] n 0 0 M o
  have hA16 := hG.1.1
  have hC6 := hG.1.2.1
  refine k_iconst hK ti_118_0 kI_0 ?_
  refine k_istore_n hK (L' := [some (.ref 22), some (.int _)]) ti_118_1 rfl ?_
  have loop : ∀ (f i : Nat), i ≤ (g_nC s) → (g_nC s) - i < f → (∀ k, k < i → sht1 s l k = false) → K 2 [some (.ref 22), some (.int (nI i))] [] n 0 0 M o := by
    intro f
    induction f with
    | zero => intro i h1 h2; omega
    | succ f ih =>
      intro i h1 h2 h3
      refine k_iload_n hK ti_118_2 rfl ?_
      refine k_aload_n hK ti_118_3 rfl ?_
      refine k_geti hK (nI (g_nC s)) ti_118_4 ow_118 fd_4_30 (by omega) rfl rfl hG.2.2.1 ?_
      refine kn_ge hK (by omega) (by omega) ti_118_7 jt_7_41 (fun c_7 => ?_) (fun c_7 => ?_)
      · refine k_aload_n hK ti_118_10 rfl ?_
        refine k_iload_n hK ti_118_11 rfl ?_
        refine k_iconst hK ti_118_12 kI_0 ?_
        refine k_callV hK (as := [.int _, .int _]) (st' := []) ti_118_13 ow_118 iv_4_91 mc_118 ms_118 rfl rfl (by omega) (Nat.le_of_ble_eq_true rfl) (Nat.le_of_ble_eq_true rfl) (Nat.le_of_ble_eq_true rfl) (Nat.le_of_ble_eq_true rfl) (by omega) rfl ?_
        refine sp_X4_fitAt (by omega) i 0 hG hL (by omega) (by omega) ?_
        rcases hfa : fA s l i 0 with _ | a
        · have e : sht1 s l i = false := by simp only [sht1, hfa]
          refine k_iconst hK ti_118_16 kI_m1 ?_
          refine k_icmp_eq hK ti_118_17 jt_17_25 (fun c_17 => ?_) (fun c_17 => ?_)
          · refine k_iinc hK (L' := [some (.ref 22), some (.int (nI (i + 1)))]) ti_118_42 rfl (by rw [kI_1, nI_add]) rfl ?_
            refine k_goto hK ti_118_45 jt_45_m43 ?_
            exact ih (i + 1) (by omega) (by omega) (fun k hk => by by_cases e2 : k = i; (subst e2; exact e); exact h3 k (by omega))
          · exact absurd rfl c_17
        · have ha := fA_lt hfa
          refine k_iconst hK ti_118_16 kI_m1 ?_
          refine k_icmp_eq hK ti_118_17 jt_17_25 (fun c_17 => ?_) (fun c_17 => ?_)
          · exact absurd c_17 (nI_nm1 (by omega))
          · refine k_aload_n hK ti_118_20 rfl ?_
            refine k_iload_n hK ti_118_21 rfl ?_
            refine k_aload_n hK ti_118_22 rfl ?_
            refine k_iload_n hK ti_118_23 rfl ?_
            refine k_iconst hK ti_118_24 kI_0 ?_
            refine k_callV hK (as := [.int _, .int _]) (st' := [.int _, .ref 22]) ti_118_25 ow_118 iv_4_91 mc_118 ms_118 rfl rfl (by omega) (Nat.le_of_ble_eq_true rfl) (Nat.le_of_ble_eq_true rfl) (Nat.le_of_ble_eq_true rfl) (Nat.le_of_ble_eq_true rfl) (by omega) rfl ?_
            refine sp_X4_fitAt (by omega) i 0 hG hL (by omega) (by omega) (k_aftv (nI a) (by rw [hfa]; rfl) ?_)
            refine k_callV hK (as := [.int _, .int _]) (st' := []) ti_118_28 ow_118 iv_4_94 mc_118 ms_118 rfl rfl (by omega) (Nat.le_of_ble_eq_true rfl) (Nat.le_of_ble_eq_true rfl) (Nat.le_of_ble_eq_true rfl) (Nat.le_of_ble_eq_true rfl) (by omega) rfl ?_
            refine sp_X4_price (by omega) i a hG hL (by omega) (by omega) ?_
            refine k_aload_n hK ti_118_31 rfl ?_
            refine k_iload_n hK ti_118_32 rfl ?_
            refine k_iconst hK ti_118_33 kI_0 ?_
            refine k_callV hK (as := [.int _, .int _]) (st' := [.int _]) ti_118_34 ow_118 iv_4_61 mc_118 ms_118 rfl rfl (by omega) (Nat.le_of_ble_eq_true rfl) (Nat.le_of_ble_eq_true rfl) (Nat.le_of_ble_eq_true rfl) (Nat.le_of_ble_eq_true rfl) (by omega) rfl ?_
            refine sp_X4_cl (by omega) i 0 (by omega) (by omega) (k_aftv ((l_coin l i)) ((hL.2.2.1 i (by omega)).1) ?_)
            refine k_icmp_le hK ti_118_37 jt_37_5 (fun c_37 => ?_) (fun c_37 => ?_)
            · have e : sht1 s l i = true := by simp only [sht1, hfa]; exact decide_eq_true c_37
              have e2 : sht s l = true := by unfold sht; rw [frst_hit c_7 e h3]; rfl
              rw [e2] at h
              refine k_iconst hK ti_118_40 kI_1 ?_
              refine k_zreturn hK ti_118_41 rk_118 mc_118 ms_118 (Nat.le_of_ble_eq_true rfl) (Nat.le_of_ble_eq_true rfl) (by decide) ?_
              exact h
            · have e : sht1 s l i = false := by simp only [sht1, hfa]; exact decide_eq_false c_37
              refine k_iinc hK (L' := [some (.ref 22), some (.int (nI (i + 1)))]) ti_118_42 rfl (by rw [kI_1, nI_add]) rfl ?_
              refine k_goto hK ti_118_45 jt_45_m43 ?_
              exact ih (i + 1) (by omega) (by omega) (fun k hk => by by_cases e2 : k = i; (subst e2; exact e); exact h3 k (by omega))
      · obtain rfl : i = (g_nC s) := by omega
        have e2 : sht s l = false := by unfold sht; rw [frst_none h3]; rfl
        rw [e2] at h
        refine k_iconst hK ti_118_48 kI_0 ?_
        refine k_zreturn hK ti_118_49 rk_118 mc_118 ms_118 (Nat.le_of_ble_eq_true rfl) (Nat.le_of_ble_eq_true rfl) (by decide) ?_
        exact h
  exact loop ((g_nC s) - 0 + 1) 0 (by omega) (by omega) (fun k hk => absurd hk (by omega))

set_option maxRecDepth 100000 in
set_option maxHeartbeats 4000000 in
theorem sp_X4_alike {X : dp_X} {d n : Nat} {M : dp_M} {o : Int64} {Q : dp_Q} (h65 : 65 ≤ n) {s : GSt} {l : LSt} (x y : Int32) (hG : RG M s) (hL : RLt M l) (h : ∀ M', RA M M' (fc_alike s l x y) → Q (.inl (some (.int (u_r (fc_alike s l x y))))) M' o) : dp_run X (d + 2 + 1) 114 [.ref 22, .int x, .int y] n M o Q := by
  apply k_run
  intro K hK
  rw [mL_114]
  show K 0 [some (.ref 22), some (.int x), some (.int y), none, none, none] [] n 0 0 M o
  have hA16 := hG.1.1
  have hC6 := hG.1.2.1
  refine k_aload_n hK ti_114_0 rfl ?_
  refine k_iconst hK ti_114_1 kI_0 ?_
  refine k_put hK ti_114_2 ow_114 fd_4_19 (by omega) rfl rfl ?_
  have hF : Fr wR M (dp_up M 22 0 (nI 0)) := Fr.up0 _ (Fr.refl _ _)
  replace hG := hG.up0 (nI 0)
  replace hL := hL.up0 (nI 0)
  have h0 : dp_up M 22 0 (nI 0) 22 0 = nI 0 := dp_up_s _ _ _ _
  generalize hM9 : dp_up M 22 0 (nI 0) = M9 at hF hG hL h0 ⊢
  clear hM9
  refine k_aload_n hK ti_114_5 rfl ?_
  refine k_iload_n hK ti_114_6 rfl ?_
  refine k_callV hK (as := [.int _]) (st' := []) ti_114_7 ow_114 iv_4_44 mc_114 ms_114 rfl rfl (by omega) (Nat.le_of_ble_eq_true rfl) (Nat.le_of_ble_eq_true rfl) (Nat.le_of_ble_eq_true rfl) (Nat.le_of_ble_eq_true rfl) (by omega) rfl ?_
  refine sp_X4_isArticle (by omega) _ hG ?_
  refine kb_eq hK ti_114_10 jt_10_11 (fun c_10 => ?_) (fun c_10 => ?_)
  · have e : fc_alike s l x y = bad 1 0 s l := by simp only [fc_alike, is_f c_10]
    refine k_aload_n hK ti_114_21 rfl ?_
    refine k_iconst hK ti_114_22 kI_1 ?_
    refine k_callV hK (as := [.int _]) (st' := []) ti_114_23 ow_114 iv_4_40 mc_114 ms_114 rfl rfl (by omega) (Nat.le_of_ble_eq_true rfl) (Nat.le_of_ble_eq_true rfl) (Nat.le_of_ble_eq_true rfl) (Nat.le_of_ble_eq_true rfl) (by omega) rfl ?_
    refine sp_X4_fail (by omega) _ ?_
    refine k_ireturn hK ti_114_26 rk_114 mc_114 ms_114 (Nat.le_of_ble_eq_true rfl) (Nat.le_of_ble_eq_true rfl) ?_
    rw [e] at h
    exact h _ (RA.bad rfl hF hG hL)
  · obtain ⟨a, hx_a⟩ := is_t c_10
    obtain ⟨hl_a, rfl⟩ := ix_some hx_a (by omega)
    refine k_aload_n hK ti_114_13 rfl ?_
    refine k_iload_n hK ti_114_14 rfl ?_
    refine k_callV hK (as := [.int _]) (st' := []) ti_114_15 ow_114 iv_4_44 mc_114 ms_114 rfl rfl (by omega) (Nat.le_of_ble_eq_true rfl) (Nat.le_of_ble_eq_true rfl) (Nat.le_of_ble_eq_true rfl) (Nat.le_of_ble_eq_true rfl) (by omega) rfl ?_
    refine sp_X4_isArticle (by omega) _ hG ?_
    refine kb_ne hK ti_114_18 jt_18_9 (fun c_18 => ?_) (fun c_18 => ?_)
    · have e : fc_alike s l (nI a) y = bad 1 0 s l := by simp only [fc_alike, hx_a, is_f c_18]
      refine k_aload_n hK ti_114_21 rfl ?_
      refine k_iconst hK ti_114_22 kI_1 ?_
      refine k_callV hK (as := [.int _]) (st' := []) ti_114_23 ow_114 iv_4_40 mc_114 ms_114 rfl rfl (by omega) (Nat.le_of_ble_eq_true rfl) (Nat.le_of_ble_eq_true rfl) (Nat.le_of_ble_eq_true rfl) (Nat.le_of_ble_eq_true rfl) (by omega) rfl ?_
      refine sp_X4_fail (by omega) _ ?_
      refine k_ireturn hK ti_114_26 rk_114 mc_114 ms_114 (Nat.le_of_ble_eq_true rfl) (Nat.le_of_ble_eq_true rfl) ?_
      rw [e] at h
      exact h _ (RA.bad rfl hF hG hL)
    · obtain ⟨b, hx_b⟩ := is_t c_18
      obtain ⟨hl_b, rfl⟩ := ix_some hx_b (by omega)
      have hla := hG.1.2.2.2.1 a (by omega)
      have hlb := hG.1.2.2.2.1 b (by omega)
      refine k_aload_n hK ti_114_27 rfl ?_
      refine k_iload_n hK ti_114_28 rfl ?_
      refine k_iconst hK ti_114_29 kI_0 ?_
      refine k_callV hK (as := [.int _, .int _]) (st' := []) ti_114_30 ow_114 iv_4_47 mc_114 ms_114 rfl rfl (by omega) (Nat.le_of_ble_eq_true rfl) (Nat.le_of_ble_eq_true rfl) (Nat.le_of_ble_eq_true rfl) (Nat.le_of_ble_eq_true rfl) (by omega) rfl ?_
      refine sp_X4_ar (by omega) a 0 (by omega) (by omega) (k_aftv ((nI (g_len s a))) (hG.2.2.2.2.1 a (by omega)) ?_)
      refine k_aload_n hK ti_114_33 rfl ?_
      refine k_iload_n hK ti_114_34 rfl ?_
      refine k_iconst hK ti_114_35 kI_0 ?_
      refine k_callV hK (as := [.int _, .int _]) (st' := [.int _]) ti_114_36 ow_114 iv_4_47 mc_114 ms_114 rfl rfl (by omega) (Nat.le_of_ble_eq_true rfl) (Nat.le_of_ble_eq_true rfl) (Nat.le_of_ble_eq_true rfl) (Nat.le_of_ble_eq_true rfl) (by omega) rfl ?_
      refine sp_X4_ar (by omega) b 0 (by omega) (by omega) (k_aftv ((nI (g_len s b))) (hG.2.2.2.2.1 b (by omega)) ?_)
      refine k_iadd hK (z := (nI (g_len s a + g_len s b))) ti_114_39 (nI_add _ _) ?_
      refine k_istore_n hK (L' := [some (.ref 22), some (.int _), some (.int _), some (.int _), none, none]) ti_114_40 rfl ?_
      refine k_iconst hK ti_114_41 kI_0 ?_
      refine k_istore hK (L' := [some (.ref 22), some (.int _), some (.int _), some (.int _), some (.int _), none]) ti_114_42 rfl ?_
      refine k_iconst hK ti_114_44 kI_0 ?_
      refine k_istore hK (L' := [some (.ref 22), some (.int _), some (.int _), some (.int _), some (.int _), some (.int _)]) ti_114_45 rfl ?_
      have loop : ∀ (f i : Nat), i ≤ 20 → 20 - i < f → K 47 [some (.ref 22), some (.int (nI a)), some (.int (nI b)), some (.int (nI (g_len s a + g_len s b))), some (.int (nI (2 * sN i (fun x => min (tm s a x) (tm s b x))))), some (.int (nI i))] [] n 0 0 M9 o := by
        intro f
        induction f with
        | zero => intro i h1 h2; omega
        | succ f ih =>
          intro i h1 h2
          have hsl := sN_le (f := (fun x => min (tm s a x) (tm s b x))) (b := 12) (n := i) (fun k hk => Nat.le_trans (Nat.min_le_left _ _) (tm_le hG.1 (by omega) k))
          refine k_iload hK ti_114_47 rfl ?_
          refine k_bipush hK ti_114_49 kB_20 ?_
          refine kn_ge hK (by omega) (by omega) ti_114_51 jt_51_33 (fun c_51 => ?_) (fun c_51 => ?_)
          · have hta := tm_le hG.1 (a := a) (by omega) i
            have htb := tm_le hG.1 (a := b) (by omega) i
            refine k_iload hK ti_114_54 rfl ?_
            refine k_iconst hK ti_114_56 kI_2 ?_
            refine k_aload_n hK ti_114_57 rfl ?_
            refine k_iload_n hK ti_114_58 rfl ?_
            refine k_iload hK ti_114_59 rfl ?_
            refine k_callV hK (as := [.int _, .int _]) (st' := [.int _, .int _]) ti_114_61 ow_114 iv_4_75 mc_114 ms_114 rfl rfl (by omega) (Nat.le_of_ble_eq_true rfl) (Nat.le_of_ble_eq_true rfl) (Nat.le_of_ble_eq_true rfl) (Nat.le_of_ble_eq_true rfl) (by omega) rfl ?_
            refine sp_X4_times (by omega) a i hG (by omega) (by omega) ?_
            refine k_aload_n hK ti_114_64 rfl ?_
            refine k_iload_n hK ti_114_65 rfl ?_
            refine k_iload hK ti_114_66 rfl ?_
            refine k_callV hK (as := [.int _, .int _]) (st' := [.int _, .int _, .int _]) ti_114_68 ow_114 iv_4_75 mc_114 ms_114 rfl rfl (by omega) (Nat.le_of_ble_eq_true rfl) (Nat.le_of_ble_eq_true rfl) (Nat.le_of_ble_eq_true rfl) (Nat.le_of_ble_eq_true rfl) (by omega) rfl ?_
            refine sp_X4_times (by omega) b i hG (by omega) (by omega) ?_
            refine k_minv hK (nI (min (tm s a i) (tm s b i))) ti_114_71 ow_114 nt_4_70 mc_114 ms_114 (Nat.le_of_ble_eq_true rfl) (Nat.le_of_ble_eq_true rfl) (Nat.le_of_ble_eq_true rfl) (nI_min (by omega) (by omega)) ?_
            refine k_imul hK (z := (nI (2 * (min (tm s a i) (tm s b i))))) ti_114_74 (pk_mul _ _) ?_
            refine k_iadd hK (z := (nI (2 * sN (i + 1) (fun x => min (tm s a x) (tm s b x))))) ti_114_75 (by rw [nI_add, ← Nat.mul_add]; rfl) ?_
            refine k_istore hK (L' := [some (.ref 22), some (.int _), some (.int _), some (.int _), some (.int _), some (.int _)]) ti_114_76 rfl ?_
            refine k_iinc hK (L' := [some (.ref 22), some (.int _), some (.int _), some (.int _), some (.int _), some (.int (nI (i + 1)))]) ti_114_78 rfl (by rw [kI_1, nI_add]) rfl ?_
            refine k_goto hK ti_114_81 jt_81_m34 ?_
            exact ih (i + 1) (by omega) (by omega) 
          · obtain rfl : i = 20 := by omega
            refine k_iload_n hK ti_114_84 rfl ?_
            refine kz_ne hK (by omega) ti_114_85 jt_85_7 (fun c_85 => ?_) (fun c_85 => ?_)
            · have e : fc_alike s l (nI a) (nI b) = ok (nI 0) s l := by simp only [fc_alike, hx_a, hx_b, alk, if_pos c_85]
              refine k_iconst hK ti_114_88 kI_0 ?_
              refine k_goto hK ti_114_89 jt_89_10 ?_
              refine k_ireturn hK ti_114_99 rk_114 mc_114 ms_114 (Nat.le_of_ble_eq_true rfl) (Nat.le_of_ble_eq_true rfl) ?_
              rw [e] at h
              exact h _ (RA.ok hF hG hL h0)
            · have e : fc_alike s l (nI a) (nI b) = ok (nI (alk s a b)) s l := by simp only [fc_alike, hx_a, hx_b]
              have e3 : alk s a b = 100 * (2 * sN 20 (fun x => min (tm s a x) (tm s b x))) / (g_len s a + g_len s b) := by unfold alk; rw [if_neg c_85, Nat.mul_comm 100]; rfl
              refine k_bipush hK ti_114_92 kB_100 ?_
              refine k_iload hK ti_114_94 rfl ?_
              refine k_imul hK (z := (nI (100 * (2 * sN 20 (fun x => min (tm s a x) (tm s b x)))))) ti_114_96 (pk_mul _ _) ?_
              refine k_iload_n hK ti_114_97 rfl ?_
              refine k_idiv hK (z := (nI (alk s a b))) ti_114_98 (nI_ne0 (by omega) (by omega)) (by rw [e3, pk_div (by omega) (by omega) (by omega)]) ?_
              refine k_ireturn hK ti_114_99 rk_114 mc_114 ms_114 (Nat.le_of_ble_eq_true rfl) (Nat.le_of_ble_eq_true rfl) ?_
              rw [e] at h
              exact h _ (RA.ok hF hG hL h0)
      exact loop (20 - 0 + 1) 0 (by omega) (by omega) 

set_option maxRecDepth 100000 in
set_option maxHeartbeats 4000000 in
theorem sp_X4_bringBack {X : dp_X} {d n : Nat} {M : dp_M} {o : Int64} {Q : dp_Q} (h65 : 65 ≤ n) (x : Int32) (h67 : 67 ≤ n) (h : Q (.inl none) (dp_up (dp_row (dp_row M 24 (va_cpy (M 65) (M 24) 0 0 224)) 25 (va_cpy (dp_row M 24 (va_cpy (M 65) (M 24) 0 0 224) 66) (dp_row M 24 (va_cpy (M 65) (M 24) 0 0 224) 25) 0 0 60)) 22 3 x) o) : dp_run X (d + 0 + 1) 116 [.ref 22, .ref 65, .ref 66, .int x] n M o Q := by
  apply k_run
  intro K hK
  rw [mL_116]
  show K 0 [some (.ref 22), some (.ref 65), some (.ref 66), some (.int x)] [] n 0 0 M o
  refine k_aload_n hK ti_116_0 rfl ?_
  refine k_iconst hK ti_116_1 kI_0 ?_
  refine k_aload_n hK ti_116_2 rfl ?_
  refine k_get hK ti_116_3 ow_116 fd_4_13 (by omega) rfl rfl ?_
  refine k_iconst hK ti_116_6 kI_0 ?_
  refine k_aload_n hK ti_116_7 rfl ?_
  refine k_get hK ti_116_8 ow_116 fd_4_13 (by omega) rfl rfl ?_
  refine k_alen hK ti_116_11 rfl (by omega) (by omega) dpl_24 ?_
  refine k_copy hK 0 0 224 ti_116_12 ow_116 nt_4_51 (Nat.le_of_ble_eq_true rfl) rfl rfl (by omega) (by omega) rfl rfl rfl (by rw [dpl_65]; omega) (by rw [dpl_24]; omega) ?_
  refine k_aload_n hK ti_116_15 rfl ?_
  refine k_iconst hK ti_116_16 kI_0 ?_
  refine k_aload_n hK ti_116_17 rfl ?_
  refine k_get hK ti_116_18 ow_116 fd_4_16 (by omega) rfl rfl ?_
  refine k_iconst hK ti_116_21 kI_0 ?_
  refine k_aload_n hK ti_116_22 rfl ?_
  refine k_get hK ti_116_23 ow_116 fd_4_16 (by omega) rfl rfl ?_
  refine k_alen hK ti_116_26 rfl (by omega) (by omega) dpl_25 ?_
  refine k_copy hK 0 0 60 ti_116_27 ow_116 nt_4_51 (Nat.le_of_ble_eq_true rfl) rfl rfl (by omega) (by omega) rfl rfl rfl (by rw [dpl_66]; omega) (by rw [dpl_25]; omega) ?_
  refine k_aload_n hK ti_116_30 rfl ?_
  refine k_iload_n hK ti_116_31 rfl ?_
  refine k_put hK ti_116_32 ow_116 fd_4_100 (by omega) rfl rfl ?_
  refine k_return hK ti_116_35 rk_116 mc_116 ms_116 (Nat.le_of_ble_eq_true rfl) (Nat.le_of_ble_eq_true rfl) ?_
  exact h
