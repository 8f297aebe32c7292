/-! The law: the two bureaus built, the times, the end. (written by wip/p28/sim5.py) -/
def s00 : GSt := (0, 0, fun w => w / 2, fun _ => 0, fun _ _ => 0, fun _ => nI 20, fun _ => 0, fun _ _ => 0)
def l00 : LSt := (fun _ => nI 0, fun _ => nI 0, fun _ => nI 0, fun _ => 0, nI 0)
theorem SR00 {o : dp_O} {S hs hw ha hc : Nat} (h1 : OB o S 5 [.ref hs, .ref hw, .ref ha, .ref hc, .int 0]) (h2 : IA o hs 40 (fun x => nI (x / 2))) (h3 : RW o false hw 0 (fun _ => 0)) (h4 : IA o ha 16 (fun _ => nI 0)) (h5 : RW o true hc 0 (fun _ => 0)) (h6 : hs ≠ ha) :
    SR o S hs hw ha hc (fun _ => 0) (fun _ => 0) (fun _ => 0) (fun _ => 0) s00 l00 :=
  ⟨by rw [show l_rnd l00 = 0 from nI_0]; exact h1, h2, h3, fun a h => absurd h (Nat.not_lt_zero a), h4, h5, fun a h => absurd h (Nat.not_lt_zero a), fun a h => absurd h (Nat.not_lt_zero a), fun a h => absurd h (Nat.not_lt_zero a), h6, fun a h => absurd h (Nat.not_lt_zero a), fun a h => absurd h (Nat.not_lt_zero a), fun a _ h => absurd h (Nat.not_lt_zero a), fun a _ h => absurd h (Nat.not_lt_zero a)⟩
theorem bk_coin {l : LSt} {c a : Nat} {p : Int32} : l_coin (book l c a p) c = l_coin l c - p := if_pos rfl
theorem bk_paid {l : LSt} {c a : Nat} {p : Int32} : l_paid (book l c a p) c = l_paid l c + p := if_pos rfl
theorem sntA_le {s : GSt} (hW : GW s) (l : LSt) : sntA s l ≤ 96 := Nat.le_trans (sN_le (b := 16) (fun k hk => Nat.le_trans (cnt_le _ _) hW.1)) (by have := hW.2.1; omega)
theorem fA_nb {s : GSt} {l : LSt} {c a k : Nat} {p : Int32} (hA : g_nA s ≤ 16) (ha : a < g_nA s) : ¬ oI (fA s (book l c a p) c k) = nI a := by
  cases e : fA s (book l c a p) c k with
  | none => exact fun z => nI_nm1 (show a < 2 ^ 31 by omega) z.symm
  | some b =>
    intro z
    have hb := fA_lt e
    have z2 : b = a := (nI_eq (show b < 2 ^ 31 by omega) (show a < 2 ^ 31 by omega)).mp z
    subst z2
    exact fA_book e
set_option maxRecDepth 100000 in
set_option maxHeartbeats 4000000 in
theorem sp_L_build {X : dp_X} {d n : Nat} {M : dp_M} {o : dp_O} {Q : dp_Q} (h65 : 65 ≤ n) (hX : X.1 < 2 ^ 31) (hJ : JC M s00 l00) (h : ∀ M' o' S hs hw ha hc W C V B s l, JC M' s l → SR o' S hs hw ha hc W C V B s l → Q (.inl (some (.ref S))) M' o') : dp_run X (d + 8 + 1) 76 [.ref 0, .ref 1000] n M o Q := by
  apply k_run
  intro K hK
  rw [mL_76]
  show K 0 [some (.ref 0), some (.ref 1000), none, none] [] n 0 0 M o
  refine n_newO hK 5 ti_76_0 ow_76 rfl mc_76 ms_76 (by omega) (by omega) (fun S o_0 f_0 k_0 a_0 => ?_)
  refine k_dup hK ti_76_3 rfl ?_
  refine k_callI hK (as := []) (st' := [.ref S]) ti_76_4 ow_76 iv_6_92 mc_76 ms_76 rfl rfl (by omega) (Nat.le_of_ble_eq_true rfl) (Nat.le_of_ble_eq_true rfl) (by omega) (by omega) a_0 ?_
  refine sp_X5_init (by omega) S a_0 (fun o_4 hs hw ha hc a1 a2 a3 a4 a5 a6 => ?_)
  have hR := SR00 a1 a2 a3 a4 a5 a6
  refine k_astore_n hK (L' := [some (.ref 0), some (.ref 1000), some (.ref S), none]) ti_76_7 rfl ?_
  refine k_iconst hK ti_76_8 kI_0 ?_
  refine k_istore_n hK (L' := [some (.ref 0), some (.ref 1000), some (.ref S), some (.int _)]) ti_76_9 rfl ?_
  have loop : ∀ (f i : Nat) (M1 : dp_M) (o1 : dp_O) (hw : Nat) (hc : Nat) (W : Nat → Nat) (C : Nat → Nat) (V : Nat → Nat) (B : Nat → Nat) (s : GSt) (l : LSt), i ≤ 64 → 64 - i < f → (JC M1 s l) → (SR o1 S hs hw ha hc W C V B s l) → K 10 [some (.ref 0), some (.ref 1000), some (.ref S), some (.int (nI i))] [] n (5 + 200 * i) (61 + 3000 * i) M1 o1 := by
    intro f
    induction f with
    | zero => intro i M1 o1 hw hc W C V B s l h1 h2; omega
    | succ f ih =>
      intro i M1 o1 hw hc W C V B s l h1 h2 hJ hR
      refine k_iload_n hK ti_76_10 rfl ?_
      refine k_bipush hK ti_76_11 kB_64 ?_
      refine kn_ge hK (by omega) (by omega) ti_76_13 jt_13_58 (fun c_13 => ?_) (fun c_13 => ?_)
      · refine k_aload_n hK ti_76_16 rfl ?_
        refine k_aload_n hK ti_76_17 rfl ?_
        refine k_aload_n hK ti_76_18 rfl ?_
        refine k_iload_n hK ti_76_19 rfl ?_
        refine k_bipush hK ti_76_20 kB_16 ?_
        refine k_irem hK (z := (nI (i % 16))) ti_76_22 (nI_ne0 (by omega) (by omega)) (nI_rem (by omega) (by omega) (by omega)) ?_
        refine k_callS hK (as := [.ref 1000, .int _]) (st' := [.ref S, .ref 0]) ti_76_23 ow_76 iv_6_93 mc_76 ms_76 rfl rfl (by omega) (Nat.le_of_ble_eq_true rfl) (Nat.le_of_ble_eq_true rfl) (by omega) (by omega) ?_
        refine sp_L_cell (by omega) (i % 16) (by omega) hX (fun x9 => ?_)
        refine k_iload_n hK ti_76_26 rfl ?_
        refine k_bipush hK ti_76_27 kB_16 ?_
        refine k_idiv hK ti_76_29 (by decide) rfl ?_
        refine k_iconst hK ti_76_30 kI_3 ?_
        refine k_imul hK ti_76_31 rfl ?_
        refine k_ishr hK ti_76_32 rfl ?_
        refine k_sipush hK ti_76_33 kS_307 ?_
        refine k_iload_n hK ti_76_36 rfl ?_
        refine k_imul hK (z := (nI (307 * i))) ti_76_37 (pk_mul _ _) ?_
        refine k_iadd hK ti_76_38 rfl ?_
        refine k_iload_n hK ti_76_39 rfl ?_
        refine k_bipush hK ti_76_40 kB_8 ?_
        refine kn_ge hK (by omega) (by omega) ti_76_42 jt_42_13 (fun c_42 => ?_) (fun c_42 => ?_)
        · refine k_sipush hK ti_76_45 kS_512 ?_
          refine k_iload_n hK ti_76_48 rfl ?_
          refine k_iconst hK ti_76_49 kI_4 ?_
          refine k_irem hK (z := (nI (i % 4))) ti_76_50 (nI_ne0 (by omega) (by omega)) (nI_rem (by omega) (by omega) (by omega)) ?_
          refine k_imul hK (z := (nI (512 * (i % 4)))) ti_76_51 (pk_mul _ _) ?_
          refine k_goto hK ti_76_52 jt_52_4 ?_
          refine k_iadd hK ti_76_56 rfl ?_
          refine k_callS hK (as := [.ref 0, .ref S, .int _]) (st' := []) ti_76_57 ow_76 iv_6_97 mc_76 ms_76 rfl rfl (by omega) (Nat.le_of_ble_eq_true rfl) (Nat.le_of_ble_eq_true rfl) (by omega) (by omega) ?_
          refine sp_L_act (by omega) _ hR hJ (fun M_57 o_57 s_57 l_57 hw_57 hc_57 W_57 C_57 V_57 B_57 _ hJ_57 hR_57 => ?_)
          refine kz_ne hK (by omega) ti_76_60 jt_60_5 (fun c_60 => ?_) (fun c_60 => ?_)
          · exact absurd c_60 (by decide)
          · refine k_iinc hK (L' := [some (.ref 0), some (.ref 1000), some (.ref S), some (.int (nI (i + 1)))]) ti_76_65 rfl (by rw [kI_1, nI_add]) rfl ?_
            refine k_goto hK ti_76_68 jt_68_m58 ?_
            refine k_wid hK (c' := 5 + 200 * (i + 1)) (q' := 61 + 3000 * (i + 1)) (by omega) (by omega) ?_
            exact ih (i + 1) _ _ _ _ _ _ _ _ _ _ (by omega) (by omega) hJ_57 hR_57
        · refine k_iconst hK ti_76_55 kI_0 ?_
          refine k_iadd hK ti_76_56 rfl ?_
          refine k_callS hK (as := [.ref 0, .ref S, .int _]) (st' := []) ti_76_57 ow_76 iv_6_97 mc_76 ms_76 rfl rfl (by omega) (Nat.le_of_ble_eq_true rfl) (Nat.le_of_ble_eq_true rfl) (by omega) (by omega) ?_
          refine sp_L_act (by omega) _ hR hJ (fun M_57 o_57 s_57 l_57 hw_57 hc_57 W_57 C_57 V_57 B_57 _ hJ_57 hR_57 => ?_)
          refine kz_ne hK (by omega) ti_76_60 jt_60_5 (fun c_60 => ?_) (fun c_60 => ?_)
          · exact absurd c_60 (by decide)
          · refine k_iinc hK (L' := [some (.ref 0), some (.ref 1000), some (.ref S), some (.int (nI (i + 1)))]) ti_76_65 rfl (by rw [kI_1, nI_add]) rfl ?_
            refine k_goto hK ti_76_68 jt_68_m58 ?_
            refine k_wid hK (c' := 5 + 200 * (i + 1)) (q' := 61 + 3000 * (i + 1)) (by omega) (by omega) ?_
            exact ih (i + 1) _ _ _ _ _ _ _ _ _ _ (by omega) (by omega) hJ_57 hR_57
      · obtain rfl : i = 64 := by omega
        refine k_aload_n hK ti_76_71 rfl ?_
        refine k_areturn hK ti_76_72 rk_76 (by decide) mc_76 ms_76 (by omega) (by omega) ?_
        exact h _ _ _ _ _ _ _ _ _ _ _ _ _ hJ hR
  refine k_wid hK (c' := 5 + 200 * 0) (q' := 61 + 3000 * 0) (by omega) (by omega) ?_
  exact loop (64 - 0 + 1) 0 _ _ _ _ _ _ _ _ _ _ (by omega) (by omega) hJ hR

set_option maxRecDepth 100000 in
set_option maxHeartbeats 4000000 in
theorem law_766 {X : dp_X} {d n : Nat} {M : dp_M} {o : dp_O} {Q : dp_Q} {K : dp_K} {cc qq : Nat} (h65 : 65 ≤ n) (hK : dp_clo X (dp_run X (d + 9)) (d + 9 + 1) 77 Q K) (hcc : cc ≤ 500000) (hqq : qq ≤ 7000000) {S hs hw ha hc : Nat} {W C V B : Nat → Nat} {s : GSt} {l : LSt} (t : Nat) (x : Int32) {v9 v10 v11 v12 v13 v14 v15 v16 v17 v18 : Option Value} (ht : t < 24) (hR : SR o S hs hw ha hc W C V B s l) (hJ : JC M s l) {y7 y8 : Int32} (h : ∀ M' v9 v10 v11, JC M' s l → K 839 [some (.ref 1000), some (.ref 0), some (.ref S), some (.int (nI t)), some (.int x), some (.int (nI (g_nA s))), some (.int (nI (g_nC s))), some (.int y7), some (.int y8), v9, v10, v11, v12, v13, v14, v15, v16, v17, v18] [] n (cc + 210) (qq + 1300) M' o) : K 766 [some (.ref 1000), some (.ref 0), some (.ref S), some (.int (nI t)), some (.int x), some (.int (nI (g_nA s))), some (.int (nI (g_nC s))), some (.int y7), some (.int y8), v9, v10, v11, v12, v13, v14, v15, v16, v17, v18] [] n cc qq M o := by
  have hW := hJ.w
  have hA16 := hW.1
  have hC6 := hW.2.1
  refine k_iconst hK ti_77_766 kI_0 ?_
  refine k_istore hK (L' := [some (.ref 1000), some (.ref 0), some (.ref S), some (.int _), some (.int _), some (.int _), some (.int _), some (.int _), some (.int _), some (.int _), v10, v11, v12, v13, v14, v15, v16, v17, v18]) ti_77_767 rfl ?_
  refine k_iconst hK ti_77_769 kI_0 ?_
  refine k_istore hK (L' := [some (.ref 1000), some (.ref 0), some (.ref S), some (.int _), some (.int _), some (.int _), some (.int _), some (.int _), some (.int _), some (.int _), some (.int _), v11, v12, v13, v14, v15, v16, v17, v18]) ti_77_770 rfl ?_
  have loopa : ∀ (fa c : Nat) (M1 : dp_M) (w11 : Option Value), c ≤ (g_nC s) → (g_nC s) - c < fa → (JC M1 s l) → K 772 [some (.ref 1000), some (.ref 0), some (.ref S), some (.int (nI t)), some (.int x), some (.int (nI (g_nA s))), some (.int (nI (g_nC s))), some (.int y7), some (.int y8), some (.int (sm c (l_paid l))), some (.int (nI c)), w11, v12, v13, v14, v15, v16, v17, v18] [] n (cc + 34 * c) (qq + 204 * c) M1 o := by
    intro fa
    induction fa with
    | zero => intro c M1 w11 h1a h2a; omega
    | succ fa iha =>
      intro c M1 w11 h1a h2a hJ
      refine k_iload hK ti_77_772 rfl ?_
      refine k_iload hK ti_77_774 rfl ?_
      refine kn_ge hK (by omega) (by omega) ti_77_776 jt_776_50 (fun c_776 => ?_) (fun c_776 => ?_)
      · refine k_iload hK ti_77_779 rfl ?_
        refine k_aload_n hK ti_77_781 rfl ?_
        refine k_iload hK ti_77_782 rfl ?_
        refine k_iconst hK ti_77_784 kI_4 ?_
        refine k_callV hK (as := [.int _, .int _]) (st' := [.int _]) ti_77_785 ow_77 iv_6_109 mc_77 ms_77 rfl rfl (by omega) (Nat.le_of_ble_eq_true rfl) (Nat.le_of_ble_eq_true rfl) (by omega) (by omega) (by omega) rfl ?_
        refine cf_about (by omega) c 4 hJ (by omega) (by omega) (fun M_785 hJ_785 => (k_aftv (l_paid l c) rfl ?_))
        replace hJ := hJ_785
        refine k_iadd hK (z := (sm (c + 1) (l_paid l))) ti_77_788 rfl ?_
        refine k_istore hK (L' := [some (.ref 1000), some (.ref 0), some (.ref S), some (.int _), some (.int _), some (.int _), some (.int _), some (.int _), some (.int _), some (.int _), some (.int _), w11, v12, v13, v14, v15, v16, v17, v18]) ti_77_789 rfl ?_
        refine k_iconst hK ti_77_791 kI_0 ?_
        refine k_istore hK (L' := [some (.ref 1000), some (.ref 0), some (.ref S), some (.int _), some (.int _), some (.int _), some (.int _), some (.int _), some (.int _), some (.int _), some (.int _), some (.int _), v12, v13, v14, v15, v16, v17, v18]) ti_77_792 rfl ?_
        have loopb : ∀ (fb a : Nat) (M1 : dp_M), a ≤ (g_nA s) → (g_nA s) - a < fb → (JC M1 s l) → K 794 [some (.ref 1000), some (.ref 0), some (.ref S), some (.int (nI t)), some (.int x), some (.int (nI (g_nA s))), some (.int (nI (g_nC s))), some (.int y7), some (.int y8), some (.int (sm (c + 1) (l_paid l))), some (.int (nI c)), some (.int (nI a)), v12, v13, v14, v15, v16, v17, v18] [] n (cc + 34 * c + 2 + 2 * a) (qq + 204 * c + 12 + 12 * a) M1 o := by
          intro fb
          induction fb with
          | zero => intro a M1 h1b h2b; omega
          | succ fb ihb =>
            intro a M1 h1b h2b hJ
            refine k_iload hK ti_77_794 rfl ?_
            refine k_iload hK ti_77_796 rfl ?_
            refine kn_ge hK (by omega) (by omega) ti_77_798 jt_798_22 (fun c_798 => ?_) (fun c_798 => ?_)
            · refine k_aload_n hK ti_77_801 rfl ?_
              refine k_iload hK ti_77_802 rfl ?_
              refine k_iload hK ti_77_804 rfl ?_
              refine k_callV hK (as := [.int _, .int _]) (st' := []) ti_77_806 ow_77 iv_6_115 mc_77 ms_77 rfl rfl (by omega) (Nat.le_of_ble_eq_true rfl) (Nat.le_of_ble_eq_true rfl) (by omega) (by omega) (by omega) rfl ?_
              refine cf_score (by omega) c a hJ (by omega) (by omega) (fun M_806 hJ_806 => ?_)
              replace hJ := hJ_806
              refine k_if_ge hK ti_77_809 jt_809_5 (fun c_809 => ?_) (fun c_809 => ?_)
              · exact absurd c_809 (sc_nn _ _ _ _)
              · refine k_iinc hK (L' := [some (.ref 1000), some (.ref 0), some (.ref S), some (.int _), some (.int _), some (.int _), some (.int _), some (.int _), some (.int _), some (.int _), some (.int _), some (.int (nI (a + 1))), v12, v13, v14, v15, v16, v17, v18]) ti_77_814 rfl (by rw [kI_1, nI_add]) rfl ?_
                refine k_goto hK ti_77_817 jt_817_m23 ?_
                refine k_wid hK (c' := cc + 34 * c + 2 + 2 * (a + 1)) (q' := qq + 204 * c + 12 + 12 * (a + 1)) (by omega) (by omega) ?_
                exact ihb (a + 1) _ (by omega) (by omega) hJ
            · refine k_iinc hK (L' := [some (.ref 1000), some (.ref 0), some (.ref S), some (.int _), some (.int _), some (.int _), some (.int _), some (.int _), some (.int _), some (.int _), some (.int (nI (c + 1))), some (.int _), v12, v13, v14, v15, v16, v17, v18]) ti_77_820 rfl (by rw [kI_1, nI_add]) rfl ?_
              refine k_goto hK ti_77_823 jt_823_m51 ?_
              refine k_wid hK (c' := cc + 34 * (c + 1)) (q' := qq + 204 * (c + 1)) (by omega) (by omega) ?_
              exact iha (c + 1) _ _ (by omega) (by omega) hJ
        refine k_wid hK (c' := cc + 34 * c + 2 + 2 * 0) (q' := qq + 204 * c + 12 + 12 * 0) (by omega) (by omega) ?_
        exact loopb ((g_nA s) - 0 + 1) 0 _ (by omega) (by omega) hJ
      · obtain rfl : c = g_nC s := by omega
        refine k_iload hK ti_77_826 rfl ?_
        refine k_aload_n hK ti_77_828 rfl ?_
        refine k_bipush hK ti_77_829 kB_6 ?_
        refine k_callV hK (as := [.int _]) (st' := [.int _]) ti_77_831 ow_77 iv_6_106 mc_77 ms_77 rfl rfl (by omega) (Nat.le_of_ble_eq_true rfl) (Nat.le_of_ble_eq_true rfl) (by omega) (by omega) (by omega) rfl ?_
        refine cf_count (by omega) 6 hJ (by omega) (fun M_831 hJ_831 => (k_aftv (sm (g_nC s) (l_paid l)) rfl ?_))
        replace hJ := hJ_831
        refine k_icmp_eq hK ti_77_834 jt_834_5 (fun c_834 => ?_) (fun c_834 => ?_)
        · refine k_wid hK (c' := cc + 210) (q' := qq + 1300) (by omega) (by omega) ?_
          exact h _ _ _ _ hJ
        · exact absurd rfl c_834
  refine k_wid hK (c' := cc + 34 * 0) (q' := qq + 204 * 0) (by omega) (by omega) ?_
  exact loopa ((g_nC s) - 0 + 1) 0 _ _ (by omega) (by omega) hJ

set_option maxRecDepth 100000 in
set_option maxHeartbeats 4000000 in
theorem law_130 {X : dp_X} {d n : Nat} {M : dp_M} {o : dp_O} {Q : dp_Q} {K : dp_K} {cc qq : Nat} (h65 : 65 ≤ n) (hK : dp_clo X (dp_run X (d + 9)) (d + 9 + 1) 77 Q K) (hcc : cc ≤ 500000) (hqq : qq ≤ 7000000) {S hs hw ha hc : Nat} {W C V B : Nat → Nat} {s : GSt} {l : LSt} (t : Nat) (x : Int32) {v9 v10 v11 v12 v13 v14 v15 v16 v17 v18 : Option Value} (ht : t < 24) (hR : SR o S hs hw ha hc W C V B s l) (hJ : JC M s l) (h0 : 0 < g_nC s) (h : ∀ M' o' l' y7 y8 v9 v10 v11 v12 v13 v14 v15 v16 v17 v18, JC M' s l' → SR o' S hs hw ha hc W C V B s l' → K 766 [some (.ref 1000), some (.ref 0), some (.ref S), some (.int (nI t)), some (.int x), some (.int (nI (g_nA s))), some (.int (nI (g_nC s))), some (.int y7), some (.int y8), v9, v10, v11, v12, v13, v14, v15, v16, v17, v18] [] n (cc + 200) (qq + 2000) M' o') : K 130 [some (.ref 1000), some (.ref 0), some (.ref S), some (.int (nI t)), some (.int x), some (.int (nI (g_nA s))), some (.int (nI (g_nC s))), some (.int (nI (sntA s l))), some (.int (pdA s l)), v9, v10, v11, v12, v13, v14, v15, v16, v17, v18] [] n cc qq M o := by
  have hW := hJ.w
  have hA16 := hW.1
  have hC6 := hW.2.1
  refine k_iload hK ti_77_130 rfl ?_
  refine k_iconst hK ti_77_132 kI_3 ?_
  refine k_ishr hK ti_77_133 rfl ?_
  refine k_iload hK ti_77_134 rfl ?_
  refine k_callS hK (as := [.int _, .int _]) (st' := []) ti_77_136 ow_77 iv_6_19 mc_77 ms_77 rfl rfl (by omega) (Nat.le_of_ble_eq_true rfl) (Nat.le_of_ble_eq_true rfl) (by omega) (by omega) ?_
  refine sp_L_below (by omega) _ (g_nC s) (by omega) (by omega) (fun c hb_c => ?_)
  have hft : ∀ l9, fts s l9 c ≤ g_nA s := fun l9 => cnt_le _ _
  have hs96 := sntA_le hW l
  have hfl := hft l
  refine k_istore hK (L' := [some (.ref 1000), some (.ref 0), some (.ref S), some (.int _), some (.int _), some (.int _), some (.int _), some (.int _), some (.int _), some (.int _), v10, v11, v12, v13, v14, v15, v16, v17, v18]) ti_77_139 rfl ?_
  rcases hfa : fA s l c 0 with _ | a
  · have hz : fts s l c = 0 := by
      by_cases e : fts s l c = 0
      · exact e
      · obtain ⟨a, ha⟩ := fA_yes e
        rw [hfa] at ha
        cases ha
    have e9 : snd1 s l c = none := by unfold snd1; rw [hfa]
    refine k_aload_n hK ti_77_141 rfl ?_
    refine k_iload hK ti_77_142 rfl ?_
    refine k_iconst hK ti_77_144 kI_5 ?_
    refine k_callV hK (as := [.int _, .int _]) (st' := []) ti_77_145 ow_77 iv_6_109 mc_77 ms_77 rfl rfl (by omega) (Nat.le_of_ble_eq_true rfl) (Nat.le_of_ble_eq_true rfl) (by omega) (by omega) (by omega) rfl ?_
    refine cf_about (by omega) c 5 hJ (by omega) (by omega) (fun M_145 hJ_145 => (k_aftv (nI (fts s l c)) rfl ?_))
    replace hJ := hJ_145
    refine kz_ne hK (by omega) ti_77_148 jt_148_7 (fun c_148 => ?_) (fun c_148 => ?_)
    · refine k_iconst hK ti_77_151 kI_m1 ?_
      refine k_goto hK ti_77_152 jt_152_10 ?_
      refine k_istore hK (L' := [some (.ref 1000), some (.ref 0), some (.ref S), some (.int _), some (.int _), some (.int _), some (.int _), some (.int _), some (.int _), some (.int _), some (.int _), v11, v12, v13, v14, v15, v16, v17, v18]) ti_77_162 rfl ?_
      refine k_iload hK ti_77_164 rfl ?_
      refine k_if_ge hK ti_77_166 jt_166_7 (fun c_166 => ?_) (fun c_166 => ?_)
      · refine k_iconst hK ti_77_169 kI_0 ?_
        refine k_goto hK ti_77_170 jt_170_16 ?_
        refine k_istore hK (L' := [some (.ref 1000), some (.ref 0), some (.ref S), some (.int _), some (.int _), some (.int _), some (.int _), some (.int _), some (.int _), some (.int _), some (.int _), some (.int _), v12, v13, v14, v15, v16, v17, v18]) ti_77_186 rfl ?_
        refine k_aload_n hK ti_77_188 rfl ?_
        refine k_iload hK ti_77_189 rfl ?_
        refine k_iconst hK ti_77_191 kI_0 ?_
        refine k_callV hK (as := [.int _, .int _]) (st' := []) ti_77_192 ow_77 iv_6_109 mc_77 ms_77 rfl rfl (by omega) (Nat.le_of_ble_eq_true rfl) (Nat.le_of_ble_eq_true rfl) (by omega) (by omega) (by omega) rfl ?_
        refine cf_about (by omega) c 0 hJ (by omega) (by omega) (fun M_192 hJ_192 => (k_aftv (l_coin l c) rfl ?_))
        replace hJ := hJ_192
        refine k_istore hK (L' := [some (.ref 1000), some (.ref 0), some (.ref S), some (.int _), some (.int _), some (.int _), some (.int _), some (.int _), some (.int _), some (.int _), some (.int _), some (.int _), some (.int _), v13, v14, v15, v16, v17, v18]) ti_77_195 rfl ?_
        refine k_aload_n hK ti_77_197 rfl ?_
        refine k_iload hK ti_77_198 rfl ?_
        refine k_iconst hK ti_77_200 kI_4 ?_
        refine k_callV hK (as := [.int _, .int _]) (st' := []) ti_77_201 ow_77 iv_6_109 mc_77 ms_77 rfl rfl (by omega) (Nat.le_of_ble_eq_true rfl) (Nat.le_of_ble_eq_true rfl) (by omega) (by omega) (by omega) rfl ?_
        refine cf_about (by omega) c 4 hJ (by omega) (by omega) (fun M_201 hJ_201 => (k_aftv (l_paid l c) rfl ?_))
        replace hJ := hJ_201
        refine k_istore hK (L' := [some (.ref 1000), some (.ref 0), some (.ref S), some (.int _), some (.int _), some (.int _), some (.int _), some (.int _), some (.int _), some (.int _), some (.int _), some (.int _), some (.int _), some (.int _), v14, v15, v16, v17, v18]) ti_77_204 rfl ?_
        refine k_aload_n hK ti_77_206 rfl ?_
        refine k_iload hK ti_77_207 rfl ?_
        refine k_iconst hK ti_77_209 kI_5 ?_
        refine k_callV hK (as := [.int _, .int _]) (st' := []) ti_77_210 ow_77 iv_6_109 mc_77 ms_77 rfl rfl (by omega) (Nat.le_of_ble_eq_true rfl) (Nat.le_of_ble_eq_true rfl) (by omega) (by omega) (by omega) rfl ?_
        refine cf_about (by omega) c 5 hJ (by omega) (by omega) (fun M_210 hJ_210 => (k_aftv (nI (fts s l c)) rfl ?_))
        replace hJ := hJ_210
        refine k_istore hK (L' := [some (.ref 1000), some (.ref 0), some (.ref S), some (.int _), some (.int _), some (.int _), some (.int _), some (.int _), some (.int _), some (.int _), some (.int _), some (.int _), some (.int _), some (.int _), some (.int _), v15, v16, v17, v18]) ti_77_213 rfl ?_
        refine k_iload hK ti_77_215 rfl ?_
        refine k_if_lt hK ti_77_217 jt_217_14 (fun c_217 => ?_) (fun c_217 => ?_)
        · refine k_iconst hK ti_77_231 kI_0 ?_
          refine k_istore hK (L' := [some (.ref 1000), some (.ref 0), some (.ref S), some (.int _), some (.int _), some (.int _), some (.int _), some (.int _), some (.int _), some (.int _), some (.int _), some (.int _), some (.int _), some (.int _), some (.int _), some (.int _), v16, v17, v18]) ti_77_232 rfl ?_
          refine k_aload_n hK ti_77_234 rfl ?_
          refine k_iload hK ti_77_235 rfl ?_
          refine k_callV hK (as := [.int _]) (st' := []) ti_77_237 ow_77 iv_6_83 mc_77 ms_77 rfl rfl (by omega) (Nat.le_of_ble_eq_true rfl) (Nat.le_of_ble_eq_true rfl) (by omega) (by omega) (by omega) rfl ?_
          refine cf_send (by omega) c hJ (by omega) (fun M_237 hJ_237 => (k_aftv ((-1 : Int32)) (by rw [e9]; rfl) ?_))
          replace hJ := hJ_237
          rw [sendL_none e9] at hJ
          refine k_iload hK ti_77_240 rfl ?_
          refine kz_eq hK (by omega) ti_77_242 jt_242_8 (fun c_242 => ?_) (fun c_242 => ?_)
          · refine k_iconst hK ti_77_250 kI_m1 ?_
            refine k_icmp_ne hK ti_77_251 jt_251_28 (fun c_251 => ?_) (fun c_251 => ?_)
            · refine k_aload_n hK ti_77_254 rfl ?_
              refine k_aload_n hK ti_77_255 rfl ?_
              refine n_get hK (.ref hc) ti_77_256 ow_77 fd_6_15 hR.ob rfl ?_
              refine k_iload hK ti_77_259 rfl ?_
              refine n_aald hK c ti_77_261 hR.rc (by omega) rfl (by omega) ?_
              refine k_callVd hK (as := [.ref (C c)]) (st' := []) ti_77_262 ow_77 iv_6_86 mc_77 ms_77 rfl rfl (by omega) (Nat.le_of_ble_eq_true rfl) (Nat.le_of_ble_eq_true rfl) (by omega) (by omega) hR.ob ?_
              refine sp_X5_send (by omega) c hW hR (by omega) (fun o_262 hR_262 _ => (k_aftv ((-1 : Int32)) (by rw [e9]; rfl) ?_))
              replace hR := hR_262
              rw [sendL_none e9] at hR
              refine k_iload hK ti_77_265 rfl ?_
              refine kz_eq hK (by omega) ti_77_267 jt_267_8 (fun c_267 => ?_) (fun c_267 => ?_)
              · refine k_iconst hK ti_77_275 kI_m1 ?_
                refine k_icmp_eq hK ti_77_276 jt_276_5 (fun c_276 => ?_) (fun c_276 => ?_)
                · refine k_iload hK ti_77_281 rfl ?_
                  refine kz_eq hK (by omega) ti_77_283 jt_283_8 (fun c_283 => ?_) (fun c_283 => ?_)
                  · refine k_iconst hK ti_77_291 kI_0 ?_
                    refine k_istore hK (L' := [some (.ref 1000), some (.ref 0), some (.ref S), some (.int _), some (.int _), some (.int _), some (.int _), some (.int _), some (.int _), some (.int _), some (.int _), some (.int _), some (.int _), some (.int _), some (.int _), some (.int _), some (.int _), v17, v18]) ti_77_292 rfl ?_
                    refine k_aload_n hK ti_77_294 rfl ?_
                    refine k_iload hK ti_77_295 rfl ?_
                    refine k_iconst hK ti_77_297 kI_0 ?_
                    refine k_callV hK (as := [.int _, .int _]) (st' := []) ti_77_298 ow_77 iv_6_109 mc_77 ms_77 rfl rfl (by omega) (Nat.le_of_ble_eq_true rfl) (Nat.le_of_ble_eq_true rfl) (by omega) (by omega) (by omega) rfl ?_
                    refine cf_about (by omega) c 0 hJ (by omega) (by omega) (fun M_298 hJ_298 => (k_aftv (l_coin l c) rfl ?_))
                    replace hJ := hJ_298
                    refine k_iload hK ti_77_301 rfl ?_
                    refine k_iload hK ti_77_303 rfl ?_
                    refine k_isub hK (z := (l_coin l c)) ti_77_305 (by rw [nI_0]; exact Int32.sub_zero _) ?_
                    refine k_icmp_ne hK ti_77_306 jt_306_76 (fun c_306 => ?_) (fun c_306 => ?_)
                    · refine k_aload_n hK ti_77_309 rfl ?_
                      refine k_iload hK ti_77_310 rfl ?_
                      refine k_iconst hK ti_77_312 kI_4 ?_
                      refine k_callV hK (as := [.int _, .int _]) (st' := []) ti_77_313 ow_77 iv_6_109 mc_77 ms_77 rfl rfl (by omega) (Nat.le_of_ble_eq_true rfl) (Nat.le_of_ble_eq_true rfl) (by omega) (by omega) (by omega) rfl ?_
                      refine cf_about (by omega) c 4 hJ (by omega) (by omega) (fun M_313 hJ_313 => (k_aftv (l_paid l c) rfl ?_))
                      replace hJ := hJ_313
                      refine k_iload hK ti_77_316 rfl ?_
                      refine k_iload hK ti_77_318 rfl ?_
                      refine k_iadd hK (z := (l_paid l c)) ti_77_320 (nI_add_zero _) ?_
                      refine k_icmp_ne hK ti_77_321 jt_321_61 (fun c_321 => ?_) (fun c_321 => ?_)
                      · refine k_aload_n hK ti_77_324 rfl ?_
                        refine k_iload hK ti_77_325 rfl ?_
                        refine k_iconst hK ti_77_327 kI_5 ?_
                        refine k_callV hK (as := [.int _, .int _]) (st' := []) ti_77_328 ow_77 iv_6_109 mc_77 ms_77 rfl rfl (by omega) (Nat.le_of_ble_eq_true rfl) (Nat.le_of_ble_eq_true rfl) (by omega) (by omega) (by omega) rfl ?_
                        refine cf_about (by omega) c 5 hJ (by omega) (by omega) (fun M_328 hJ_328 => (k_aftv (nI (fts s l c)) rfl ?_))
                        replace hJ := hJ_328
                        refine k_iload hK ti_77_331 rfl ?_
                        refine k_iload hK ti_77_333 rfl ?_
                        refine kz_eq hK (by omega) ti_77_335 jt_335_7 (fun c_335 => ?_) (fun c_335 => ?_)
                        · refine k_iconst hK ti_77_342 kI_0 ?_
                          refine k_isub hK (z := (nI (fts s l c))) ti_77_343 (by rw [nI_0]; exact Int32.sub_zero _) ?_
                          refine kn_ne hK (by omega) (by omega) ti_77_344 jt_344_38 (fun c_344 => ?_) (fun c_344 => ?_)
                          · refine k_aload_n hK ti_77_347 rfl ?_
                            refine k_iconst hK ti_77_348 kI_5 ?_
                            refine k_callV hK (as := [.int _]) (st' := []) ti_77_349 ow_77 iv_6_106 mc_77 ms_77 rfl rfl (by omega) (Nat.le_of_ble_eq_true rfl) (Nat.le_of_ble_eq_true rfl) (by omega) (by omega) (by omega) rfl ?_
                            refine cf_count (by omega) 5 hJ (by omega) (fun M_349 hJ_349 => (k_aftv (nI (sntA s l)) rfl ?_))
                            replace hJ := hJ_349
                            refine k_iload hK ti_77_352 rfl ?_
                            refine k_iload hK ti_77_354 rfl ?_
                            refine kz_eq hK (by omega) ti_77_356 jt_356_7 (fun c_356 => ?_) (fun c_356 => ?_)
                            · refine k_iconst hK ti_77_363 kI_0 ?_
                              refine k_iadd hK (z := (nI (sntA s l + 0))) ti_77_364 (nI_add _ _) ?_
                              refine kn_ne hK (by omega) (by omega) ti_77_365 jt_365_17 (fun c_365 => ?_) (fun c_365 => ?_)
                              · refine k_aload_n hK ti_77_368 rfl ?_
                                refine k_bipush hK ti_77_369 kB_6 ?_
                                refine k_callV hK (as := [.int _]) (st' := []) ti_77_371 ow_77 iv_6_106 mc_77 ms_77 rfl rfl (by omega) (Nat.le_of_ble_eq_true rfl) (Nat.le_of_ble_eq_true rfl) (by omega) (by omega) (by omega) rfl ?_
                                refine cf_count (by omega) 6 hJ (by omega) (fun M_371 hJ_371 => (k_aftv (pdA s l) rfl ?_))
                                replace hJ := hJ_371
                                refine k_iload hK ti_77_374 rfl ?_
                                refine k_iload hK ti_77_376 rfl ?_
                                refine k_iadd hK (z := (pdA s l)) ti_77_378 (nI_add_zero _) ?_
                                refine k_icmp_eq hK ti_77_379 jt_379_5 (fun c_379 => ?_) (fun c_379 => ?_)
                                · refine k_iload hK ti_77_384 rfl ?_
                                  refine kz_eq hK (by omega) ti_77_386 jt_386_39 (fun c_386 => ?_) (fun c_386 => ?_)
                                  · refine k_goto hK ti_77_425 jt_425_341 ?_
                                    refine k_wid hK (c' := cc + 200) (q' := qq + 2000) (by omega) (by omega) ?_
                                    exact h _ _ _ _ _ _ _ _ _ _ _ _ _ _ _ hJ hR
                                  · exact absurd rfl c_386
                                · exact absurd rfl c_379
                              · exact absurd rfl c_365
                            · exact absurd rfl c_356
                          · exact absurd rfl c_344
                        · exact absurd rfl c_335
                      · exact absurd rfl c_321
                    · exact absurd rfl c_306
                  · exact absurd rfl c_283
                · exact absurd rfl c_276
              · exact absurd rfl c_267
            · exact absurd rfl c_251
          · exact absurd rfl c_242
        · exact absurd (by decide) c_217
      · exact absurd (by decide) c_166
    · exact absurd hz c_148
  · have ha9 := fA_lt hfa
    have hfi := fA_fit hfa
    have hz : ¬ fts s l c = 0 := by have h9 := cnt_pos ha9 hfi; intro z; have z : cnt (g_nA s) (fit s l c) = 0 := z; omega
    refine k_aload_n hK ti_77_141 rfl ?_
    refine k_iload hK ti_77_142 rfl ?_
    refine k_iconst hK ti_77_144 kI_5 ?_
    refine k_callV hK (as := [.int _, .int _]) (st' := []) ti_77_145 ow_77 iv_6_109 mc_77 ms_77 rfl rfl (by omega) (Nat.le_of_ble_eq_true rfl) (Nat.le_of_ble_eq_true rfl) (by omega) (by omega) (by omega) rfl ?_
    refine cf_about (by omega) c 5 hJ (by omega) (by omega) (fun M_145 hJ_145 => (k_aftv (nI (fts s l c)) rfl ?_))
    replace hJ := hJ_145
    refine kz_ne hK (by omega) ti_77_148 jt_148_7 (fun c_148 => ?_) (fun c_148 => ?_)
    · exact absurd c_148 hz
    · refine k_aload_n hK ti_77_155 rfl ?_
      refine k_iload hK ti_77_156 rfl ?_
      refine k_iconst hK ti_77_158 kI_0 ?_
      refine k_callV hK (as := [.int _, .int _]) (st' := []) ti_77_159 ow_77 iv_6_112 mc_77 ms_77 rfl rfl (by omega) (Nat.le_of_ble_eq_true rfl) (Nat.le_of_ble_eq_true rfl) (by omega) (by omega) (by omega) rfl ?_
      refine cf_fit (by omega) c 0 hJ (by omega) (by omega) (fun M_159 hJ_159 => (k_aftv (nI a) (by rw [hfa]; rfl) ?_))
      replace hJ := hJ_159
      refine k_istore hK (L' := [some (.ref 1000), some (.ref 0), some (.ref S), some (.int _), some (.int _), some (.int _), some (.int _), some (.int _), some (.int _), some (.int _), some (.int _), v11, v12, v13, v14, v15, v16, v17, v18]) ti_77_162 rfl ?_
      refine k_iload hK ti_77_164 rfl ?_
      refine kz_ge hK (by omega) ti_77_166 jt_166_7 ?_
      refine k_iconst hK ti_77_173 kI_2 ?_
      refine k_aload_n hK ti_77_174 rfl ?_
      refine k_iload hK ti_77_175 rfl ?_
      refine k_iload hK ti_77_177 rfl ?_
      refine k_callV hK (as := [.int _, .int _]) (st' := [.int _]) ti_77_179 ow_77 iv_6_115 mc_77 ms_77 rfl rfl (by omega) (Nat.le_of_ble_eq_true rfl) (Nat.le_of_ble_eq_true rfl) (by omega) (by omega) (by omega) rfl ?_
      refine cf_score (by omega) c a hJ (by omega) (by omega) (fun M_179 hJ_179 => ?_)
      replace hJ := hJ_179
      refine k_bipush hK ti_77_182 kB_20 ?_
      refine k_idiv hK (z := (sc s l c a / nI 20)) ti_77_184 (by decide) rfl ?_
      refine k_iadd hK (z := (prc s l c a)) ti_77_185 rfl ?_
      refine k_istore hK (L' := [some (.ref 1000), some (.ref 0), some (.ref S), some (.int _), some (.int _), some (.int _), some (.int _), some (.int _), some (.int _), some (.int _), some (.int _), some (.int _), v12, v13, v14, v15, v16, v17, v18]) ti_77_186 rfl ?_
      refine k_aload_n hK ti_77_188 rfl ?_
      refine k_iload hK ti_77_189 rfl ?_
      refine k_iconst hK ti_77_191 kI_0 ?_
      refine k_callV hK (as := [.int _, .int _]) (st' := []) ti_77_192 ow_77 iv_6_109 mc_77 ms_77 rfl rfl (by omega) (Nat.le_of_ble_eq_true rfl) (Nat.le_of_ble_eq_true rfl) (by omega) (by omega) (by omega) rfl ?_
      refine cf_about (by omega) c 0 hJ (by omega) (by omega) (fun M_192 hJ_192 => (k_aftv (l_coin l c) rfl ?_))
      replace hJ := hJ_192
      refine k_istore hK (L' := [some (.ref 1000), some (.ref 0), some (.ref S), some (.int _), some (.int _), some (.int _), some (.int _), some (.int _), some (.int _), some (.int _), some (.int _), some (.int _), some (.int _), v13, v14, v15, v16, v17, v18]) ti_77_195 rfl ?_
      refine k_aload_n hK ti_77_197 rfl ?_
      refine k_iload hK ti_77_198 rfl ?_
      refine k_iconst hK ti_77_200 kI_4 ?_
      refine k_callV hK (as := [.int _, .int _]) (st' := []) ti_77_201 ow_77 iv_6_109 mc_77 ms_77 rfl rfl (by omega) (Nat.le_of_ble_eq_true rfl) (Nat.le_of_ble_eq_true rfl) (by omega) (by omega) (by omega) rfl ?_
      refine cf_about (by omega) c 4 hJ (by omega) (by omega) (fun M_201 hJ_201 => (k_aftv (l_paid l c) rfl ?_))
      replace hJ := hJ_201
      refine k_istore hK (L' := [some (.ref 1000), some (.ref 0), some (.ref S), some (.int _), some (.int _), some (.int _), some (.int _), some (.int _), some (.int _), some (.int _), some (.int _), some (.int _), some (.int _), some (.int _), v14, v15, v16, v17, v18]) ti_77_204 rfl ?_
      refine k_aload_n hK ti_77_206 rfl ?_
      refine k_iload hK ti_77_207 rfl ?_
      refine k_iconst hK ti_77_209 kI_5 ?_
      refine k_callV hK (as := [.int _, .int _]) (st' := []) ti_77_210 ow_77 iv_6_109 mc_77 ms_77 rfl rfl (by omega) (Nat.le_of_ble_eq_true rfl) (Nat.le_of_ble_eq_true rfl) (by omega) (by omega) (by omega) rfl ?_
      refine cf_about (by omega) c 5 hJ (by omega) (by omega) (fun M_210 hJ_210 => (k_aftv (nI (fts s l c)) rfl ?_))
      replace hJ := hJ_210
      refine k_istore hK (L' := [some (.ref 1000), some (.ref 0), some (.ref S), some (.int _), some (.int _), some (.int _), some (.int _), some (.int _), some (.int _), some (.int _), some (.int _), some (.int _), some (.int _), some (.int _), some (.int _), v15, v16, v17, v18]) ti_77_213 rfl ?_
      refine k_iload hK ti_77_215 rfl ?_
      refine kz_lt hK (by omega) ti_77_217 jt_217_14 ?_
      refine k_iload hK ti_77_220 rfl ?_
      refine k_iload hK ti_77_222 rfl ?_
      refine k_icmp_lt hK ti_77_224 jt_224_7 (fun c_224 => ?_) (fun c_224 => ?_)
      · have e9 : snd1 s l c = none := by unfold snd1; rw [hfa]; exact if_pos c_224
        refine k_iconst hK ti_77_231 kI_0 ?_
        refine k_istore hK (L' := [some (.ref 1000), some (.ref 0), some (.ref S), some (.int _), some (.int _), some (.int _), some (.int _), some (.int _), some (.int _), some (.int _), some (.int _), some (.int _), some (.int _), some (.int _), some (.int _), some (.int _), v16, v17, v18]) ti_77_232 rfl ?_
        refine k_aload_n hK ti_77_234 rfl ?_
        refine k_iload hK ti_77_235 rfl ?_
        refine k_callV hK (as := [.int _]) (st' := []) ti_77_237 ow_77 iv_6_83 mc_77 ms_77 rfl rfl (by omega) (Nat.le_of_ble_eq_true rfl) (Nat.le_of_ble_eq_true rfl) (by omega) (by omega) (by omega) rfl ?_
        refine cf_send (by omega) c hJ (by omega) (fun M_237 hJ_237 => (k_aftv ((-1 : Int32)) (by rw [e9]; rfl) ?_))
        replace hJ := hJ_237
        rw [sendL_none e9] at hJ
        refine k_iload hK ti_77_240 rfl ?_
        refine kz_eq hK (by omega) ti_77_242 jt_242_8 (fun c_242 => ?_) (fun c_242 => ?_)
        · refine k_iconst hK ti_77_250 kI_m1 ?_
          refine k_icmp_ne hK ti_77_251 jt_251_28 (fun c_251 => ?_) (fun c_251 => ?_)
          · refine k_aload_n hK ti_77_254 rfl ?_
            refine k_aload_n hK ti_77_255 rfl ?_
            refine n_get hK (.ref hc) ti_77_256 ow_77 fd_6_15 hR.ob rfl ?_
            refine k_iload hK ti_77_259 rfl ?_
            refine n_aald hK c ti_77_261 hR.rc (by omega) rfl (by omega) ?_
            refine k_callVd hK (as := [.ref (C c)]) (st' := []) ti_77_262 ow_77 iv_6_86 mc_77 ms_77 rfl rfl (by omega) (Nat.le_of_ble_eq_true rfl) (Nat.le_of_ble_eq_true rfl) (by omega) (by omega) hR.ob ?_
            refine sp_X5_send (by omega) c hW hR (by omega) (fun o_262 hR_262 _ => (k_aftv ((-1 : Int32)) (by rw [e9]; rfl) ?_))
            replace hR := hR_262
            rw [sendL_none e9] at hR
            refine k_iload hK ti_77_265 rfl ?_
            refine kz_eq hK (by omega) ti_77_267 jt_267_8 (fun c_267 => ?_) (fun c_267 => ?_)
            · refine k_iconst hK ti_77_275 kI_m1 ?_
              refine k_icmp_eq hK ti_77_276 jt_276_5 (fun c_276 => ?_) (fun c_276 => ?_)
              · refine k_iload hK ti_77_281 rfl ?_
                refine kz_eq hK (by omega) ti_77_283 jt_283_8 (fun c_283 => ?_) (fun c_283 => ?_)
                · refine k_iconst hK ti_77_291 kI_0 ?_
                  refine k_istore hK (L' := [some (.ref 1000), some (.ref 0), some (.ref S), some (.int _), some (.int _), some (.int _), some (.int _), some (.int _), some (.int _), some (.int _), some (.int _), some (.int _), some (.int _), some (.int _), some (.int _), some (.int _), some (.int _), v17, v18]) ti_77_292 rfl ?_
                  refine k_aload_n hK ti_77_294 rfl ?_
                  refine k_iload hK ti_77_295 rfl ?_
                  refine k_iconst hK ti_77_297 kI_0 ?_
                  refine k_callV hK (as := [.int _, .int _]) (st' := []) ti_77_298 ow_77 iv_6_109 mc_77 ms_77 rfl rfl (by omega) (Nat.le_of_ble_eq_true rfl) (Nat.le_of_ble_eq_true rfl) (by omega) (by omega) (by omega) rfl ?_
                  refine cf_about (by omega) c 0 hJ (by omega) (by omega) (fun M_298 hJ_298 => (k_aftv (l_coin l c) rfl ?_))
                  replace hJ := hJ_298
                  refine k_iload hK ti_77_301 rfl ?_
                  refine k_iload hK ti_77_303 rfl ?_
                  refine k_isub hK (z := (l_coin l c)) ti_77_305 (by rw [nI_0]; exact Int32.sub_zero _) ?_
                  refine k_icmp_ne hK ti_77_306 jt_306_76 (fun c_306 => ?_) (fun c_306 => ?_)
                  · refine k_aload_n hK ti_77_309 rfl ?_
                    refine k_iload hK ti_77_310 rfl ?_
                    refine k_iconst hK ti_77_312 kI_4 ?_
                    refine k_callV hK (as := [.int _, .int _]) (st' := []) ti_77_313 ow_77 iv_6_109 mc_77 ms_77 rfl rfl (by omega) (Nat.le_of_ble_eq_true rfl) (Nat.le_of_ble_eq_true rfl) (by omega) (by omega) (by omega) rfl ?_
                    refine cf_about (by omega) c 4 hJ (by omega) (by omega) (fun M_313 hJ_313 => (k_aftv (l_paid l c) rfl ?_))
                    replace hJ := hJ_313
                    refine k_iload hK ti_77_316 rfl ?_
                    refine k_iload hK ti_77_318 rfl ?_
                    refine k_iadd hK (z := (l_paid l c)) ti_77_320 (nI_add_zero _) ?_
                    refine k_icmp_ne hK ti_77_321 jt_321_61 (fun c_321 => ?_) (fun c_321 => ?_)
                    · refine k_aload_n hK ti_77_324 rfl ?_
                      refine k_iload hK ti_77_325 rfl ?_
                      refine k_iconst hK ti_77_327 kI_5 ?_
                      refine k_callV hK (as := [.int _, .int _]) (st' := []) ti_77_328 ow_77 iv_6_109 mc_77 ms_77 rfl rfl (by omega) (Nat.le_of_ble_eq_true rfl) (Nat.le_of_ble_eq_true rfl) (by omega) (by omega) (by omega) rfl ?_
                      refine cf_about (by omega) c 5 hJ (by omega) (by omega) (fun M_328 hJ_328 => (k_aftv (nI (fts s l c)) rfl ?_))
                      replace hJ := hJ_328
                      refine k_iload hK ti_77_331 rfl ?_
                      refine k_iload hK ti_77_333 rfl ?_
                      refine kz_eq hK (by omega) ti_77_335 jt_335_7 (fun c_335 => ?_) (fun c_335 => ?_)
                      · refine k_iconst hK ti_77_342 kI_0 ?_
                        refine k_isub hK (z := (nI (fts s l c))) ti_77_343 (by rw [nI_0]; exact Int32.sub_zero _) ?_
                        refine kn_ne hK (by omega) (by omega) ti_77_344 jt_344_38 (fun c_344 => ?_) (fun c_344 => ?_)
                        · refine k_aload_n hK ti_77_347 rfl ?_
                          refine k_iconst hK ti_77_348 kI_5 ?_
                          refine k_callV hK (as := [.int _]) (st' := []) ti_77_349 ow_77 iv_6_106 mc_77 ms_77 rfl rfl (by omega) (Nat.le_of_ble_eq_true rfl) (Nat.le_of_ble_eq_true rfl) (by omega) (by omega) (by omega) rfl ?_
                          refine cf_count (by omega) 5 hJ (by omega) (fun M_349 hJ_349 => (k_aftv (nI (sntA s l)) rfl ?_))
                          replace hJ := hJ_349
                          refine k_iload hK ti_77_352 rfl ?_
                          refine k_iload hK ti_77_354 rfl ?_
                          refine kz_eq hK (by omega) ti_77_356 jt_356_7 (fun c_356 => ?_) (fun c_356 => ?_)
                          · refine k_iconst hK ti_77_363 kI_0 ?_
                            refine k_iadd hK (z := (nI (sntA s l + 0))) ti_77_364 (nI_add _ _) ?_
                            refine kn_ne hK (by omega) (by omega) ti_77_365 jt_365_17 (fun c_365 => ?_) (fun c_365 => ?_)
                            · refine k_aload_n hK ti_77_368 rfl ?_
                              refine k_bipush hK ti_77_369 kB_6 ?_
                              refine k_callV hK (as := [.int _]) (st' := []) ti_77_371 ow_77 iv_6_106 mc_77 ms_77 rfl rfl (by omega) (Nat.le_of_ble_eq_true rfl) (Nat.le_of_ble_eq_true rfl) (by omega) (by omega) (by omega) rfl ?_
                              refine cf_count (by omega) 6 hJ (by omega) (fun M_371 hJ_371 => (k_aftv (pdA s l) rfl ?_))
                              replace hJ := hJ_371
                              refine k_iload hK ti_77_374 rfl ?_
                              refine k_iload hK ti_77_376 rfl ?_
                              refine k_iadd hK (z := (pdA s l)) ti_77_378 (nI_add_zero _) ?_
                              refine k_icmp_eq hK ti_77_379 jt_379_5 (fun c_379 => ?_) (fun c_379 => ?_)
                              · refine k_iload hK ti_77_384 rfl ?_
                                refine kz_eq hK (by omega) ti_77_386 jt_386_39 (fun c_386 => ?_) (fun c_386 => ?_)
                                · refine k_goto hK ti_77_425 jt_425_341 ?_
                                  refine k_wid hK (c' := cc + 200) (q' := qq + 2000) (by omega) (by omega) ?_
                                  exact h _ _ _ _ _ _ _ _ _ _ _ _ _ _ _ hJ hR
                                · exact absurd rfl c_386
                              · exact absurd rfl c_379
                            · exact absurd rfl c_365
                          · exact absurd rfl c_356
                        · exact absurd rfl c_344
                      · exact absurd rfl c_335
                    · exact absurd rfl c_321
                  · exact absurd rfl c_306
                · exact absurd rfl c_283
              · exact absurd rfl c_276
            · exact absurd rfl c_267
          · exact absurd rfl c_251
        · exact absurd rfl c_242
      · have e9 : snd1 s l c = some a := by unfold snd1; rw [hfa]; exact if_neg c_224
        have e8 : sntA s (book l c a (prc s l c a)) = sntA s l + 1 := by rw [← sendL_some e9, sntA_send (by omega), e9]; rfl
        have e7 := fts_book (p := prc s l c a) ha9 hfi
        have hf2 := hft (book l c a (prc s l c a))
        have hs97 := sntA_le hW (book l c a (prc s l c a))
        refine k_iconst hK ti_77_227 kI_1 ?_
        refine k_goto hK ti_77_228 jt_228_4 ?_
        refine k_istore hK (L' := [some (.ref 1000), some (.ref 0), some (.ref S), some (.int _), some (.int _), some (.int _), some (.int _), some (.int _), some (.int _), some (.int _), some (.int _), some (.int _), some (.int _), some (.int _), some (.int _), some (.int _), v16, v17, v18]) ti_77_232 rfl ?_
        refine k_aload_n hK ti_77_234 rfl ?_
        refine k_iload hK ti_77_235 rfl ?_
        refine k_callV hK (as := [.int _]) (st' := []) ti_77_237 ow_77 iv_6_83 mc_77 ms_77 rfl rfl (by omega) (Nat.le_of_ble_eq_true rfl) (Nat.le_of_ble_eq_true rfl) (by omega) (by omega) (by omega) rfl ?_
        refine cf_send (by omega) c hJ (by omega) (fun M_237 hJ_237 => (k_aftv (nI a) (by rw [e9]; rfl) ?_))
        replace hJ := hJ_237
        rw [sendL_some e9] at hJ
        refine k_iload hK ti_77_240 rfl ?_
        refine kz_eq hK (by omega) ti_77_242 jt_242_8 (fun c_242 => ?_) (fun c_242 => ?_)
        · exact absurd c_242 (by decide)
        · refine k_iload hK ti_77_245 rfl ?_
          refine k_goto hK ti_77_247 jt_247_4 ?_
          refine kn_ne hK (by omega) (by omega) ti_77_251 jt_251_28 (fun c_251 => ?_) (fun c_251 => ?_)
          · refine k_aload_n hK ti_77_254 rfl ?_
            refine k_aload_n hK ti_77_255 rfl ?_
            refine n_get hK (.ref hc) ti_77_256 ow_77 fd_6_15 hR.ob rfl ?_
            refine k_iload hK ti_77_259 rfl ?_
            refine n_aald hK c ti_77_261 hR.rc (by omega) rfl (by omega) ?_
            refine k_callVd hK (as := [.ref (C c)]) (st' := []) ti_77_262 ow_77 iv_6_86 mc_77 ms_77 rfl rfl (by omega) (Nat.le_of_ble_eq_true rfl) (Nat.le_of_ble_eq_true rfl) (by omega) (by omega) hR.ob ?_
            refine sp_X5_send (by omega) c hW hR (by omega) (fun o_262 hR_262 _ => (k_aftv (nI a) (by rw [e9]; rfl) ?_))
            replace hR := hR_262
            rw [sendL_some e9] at hR
            refine k_iload hK ti_77_265 rfl ?_
            refine kz_eq hK (by omega) ti_77_267 jt_267_8 (fun c_267 => ?_) (fun c_267 => ?_)
            · exact absurd c_267 (by decide)
            · refine k_iload hK ti_77_270 rfl ?_
              refine k_goto hK ti_77_272 jt_272_4 ?_
              refine kn_eq hK (by omega) (by omega) ti_77_276 jt_276_5 (fun c_276 => ?_) (fun c_276 => ?_)
              · refine k_iload hK ti_77_281 rfl ?_
                refine kz_eq hK (by omega) ti_77_283 jt_283_8 (fun c_283 => ?_) (fun c_283 => ?_)
                · exact absurd c_283 (by decide)
                · refine k_iload hK ti_77_286 rfl ?_
                  refine k_goto hK ti_77_288 jt_288_4 ?_
                  refine k_istore hK (L' := [some (.ref 1000), some (.ref 0), some (.ref S), some (.int _), some (.int _), some (.int _), some (.int _), some (.int _), some (.int _), some (.int _), some (.int _), some (.int _), some (.int _), some (.int _), some (.int _), some (.int _), some (.int _), v17, v18]) ti_77_292 rfl ?_
                  refine k_aload_n hK ti_77_294 rfl ?_
                  refine k_iload hK ti_77_295 rfl ?_
                  refine k_iconst hK ti_77_297 kI_0 ?_
                  refine k_callV hK (as := [.int _, .int _]) (st' := []) ti_77_298 ow_77 iv_6_109 mc_77 ms_77 rfl rfl (by omega) (Nat.le_of_ble_eq_true rfl) (Nat.le_of_ble_eq_true rfl) (by omega) (by omega) (by omega) rfl ?_
                  refine cf_about (by omega) c 0 hJ (by omega) (by omega) (fun M_298 hJ_298 => (k_aftv (l_coin l c - prc s l c a) bk_coin ?_))
                  replace hJ := hJ_298
                  refine k_iload hK ti_77_301 rfl ?_
                  refine k_iload hK ti_77_303 rfl ?_
                  refine k_isub hK (z := (l_coin l c - prc s l c a)) ti_77_305 rfl ?_
                  refine k_icmp_ne hK ti_77_306 jt_306_76 (fun c_306 => ?_) (fun c_306 => ?_)
                  · refine k_aload_n hK ti_77_309 rfl ?_
                    refine k_iload hK ti_77_310 rfl ?_
                    refine k_iconst hK ti_77_312 kI_4 ?_
                    refine k_callV hK (as := [.int _, .int _]) (st' := []) ti_77_313 ow_77 iv_6_109 mc_77 ms_77 rfl rfl (by omega) (Nat.le_of_ble_eq_true rfl) (Nat.le_of_ble_eq_true rfl) (by omega) (by omega) (by omega) rfl ?_
                    refine cf_about (by omega) c 4 hJ (by omega) (by omega) (fun M_313 hJ_313 => (k_aftv (l_paid l c + prc s l c a) bk_paid ?_))
                    replace hJ := hJ_313
                    refine k_iload hK ti_77_316 rfl ?_
                    refine k_iload hK ti_77_318 rfl ?_
                    refine k_iadd hK (z := (l_paid l c + prc s l c a)) ti_77_320 rfl ?_
                    refine k_icmp_ne hK ti_77_321 jt_321_61 (fun c_321 => ?_) (fun c_321 => ?_)
                    · refine k_aload_n hK ti_77_324 rfl ?_
                      refine k_iload hK ti_77_325 rfl ?_
                      refine k_iconst hK ti_77_327 kI_5 ?_
                      refine k_callV hK (as := [.int _, .int _]) (st' := []) ti_77_328 ow_77 iv_6_109 mc_77 ms_77 rfl rfl (by omega) (Nat.le_of_ble_eq_true rfl) (Nat.le_of_ble_eq_true rfl) (by omega) (by omega) (by omega) rfl ?_
                      refine cf_about (by omega) c 5 hJ (by omega) (by omega) (fun M_328 hJ_328 => (k_aftv (nI (fts s (book l c a (prc s l c a)) c)) rfl ?_))
                      replace hJ := hJ_328
                      refine k_iload hK ti_77_331 rfl ?_
                      refine k_iload hK ti_77_333 rfl ?_
                      refine kz_eq hK (by omega) ti_77_335 jt_335_7 (fun c_335 => ?_) (fun c_335 => ?_)
                      · exact absurd c_335 (by decide)
                      · refine k_iconst hK ti_77_338 kI_1 ?_
                        refine k_goto hK ti_77_339 jt_339_4 ?_
                        refine k_isub hK (z := (nI (fts s l c - 1))) ti_77_343 (pk_sub (by omega)) ?_
                        refine kn_ne hK (by omega) (by omega) ti_77_344 jt_344_38 (fun c_344 => ?_) (fun c_344 => ?_)
                        · refine k_aload_n hK ti_77_347 rfl ?_
                          refine k_iconst hK ti_77_348 kI_5 ?_
                          refine k_callV hK (as := [.int _]) (st' := []) ti_77_349 ow_77 iv_6_106 mc_77 ms_77 rfl rfl (by omega) (Nat.le_of_ble_eq_true rfl) (Nat.le_of_ble_eq_true rfl) (by omega) (by omega) (by omega) rfl ?_
                          refine cf_count (by omega) 5 hJ (by omega) (fun M_349 hJ_349 => (k_aftv (nI (sntA s (book l c a (prc s l c a)))) rfl ?_))
                          replace hJ := hJ_349
                          refine k_iload hK ti_77_352 rfl ?_
                          refine k_iload hK ti_77_354 rfl ?_
                          refine kz_eq hK (by omega) ti_77_356 jt_356_7 (fun c_356 => ?_) (fun c_356 => ?_)
                          · exact absurd c_356 (by decide)
                          · refine k_iconst hK ti_77_359 kI_1 ?_
                            refine k_goto hK ti_77_360 jt_360_4 ?_
                            refine k_iadd hK (z := (nI (sntA s l + 1))) ti_77_364 (nI_add _ _) ?_
                            refine kn_ne hK (by omega) (by omega) ti_77_365 jt_365_17 (fun c_365 => ?_) (fun c_365 => ?_)
                            · refine k_aload_n hK ti_77_368 rfl ?_
                              refine k_bipush hK ti_77_369 kB_6 ?_
                              refine k_callV hK (as := [.int _]) (st' := []) ti_77_371 ow_77 iv_6_106 mc_77 ms_77 rfl rfl (by omega) (Nat.le_of_ble_eq_true rfl) (Nat.le_of_ble_eq_true rfl) (by omega) (by omega) (by omega) rfl ?_
                              refine cf_count (by omega) 6 hJ (by omega) (fun M_371 hJ_371 => (k_aftv (pdA s l + prc s l c a) (pdA_book (by omega)) ?_))
                              replace hJ := hJ_371
                              refine k_iload hK ti_77_374 rfl ?_
                              refine k_iload hK ti_77_376 rfl ?_
                              refine k_iadd hK (z := (pdA s l + prc s l c a)) ti_77_378 rfl ?_
                              refine k_icmp_eq hK ti_77_379 jt_379_5 (fun c_379 => ?_) (fun c_379 => ?_)
                              · refine k_iload hK ti_77_384 rfl ?_
                                refine kz_eq hK (by omega) ti_77_386 jt_386_39 (fun c_386 => ?_) (fun c_386 => ?_)
                                · exact absurd c_386 (by decide)
                                · refine k_iconst hK ti_77_389 kI_0 ?_
                                  refine k_istore hK (L' := [some (.ref 1000), some (.ref 0), some (.ref S), some (.int _), some (.int _), some (.int _), some (.int _), some (.int _), some (.int _), some (.int _), some (.int _), some (.int _), some (.int _), some (.int _), some (.int _), some (.int _), some (.int _), some (.int _), v18]) ti_77_390 rfl ?_
                                  have loopa : ∀ (fa k : Nat) (M1 : dp_M), k ≤ (fts s (book l c a (prc s l c a)) c) → (fts s (book l c a (prc s l c a)) c) - k < fa → (JC M1 s (book l c a (prc s l c a))) → K 392 [some (.ref 1000), some (.ref 0), some (.ref S), some (.int (nI t)), some (.int x), some (.int (nI (g_nA s))), some (.int (nI (g_nC s))), some (.int (nI (sntA s l))), some (.int (pdA s l)), some (.int (nI c)), some (.int (nI a)), some (.int (prc s l c a)), some (.int (l_coin l c)), some (.int (l_paid l c)), some (.int (nI (fts s l c))), some (.int (nI 1)), some (.int (prc s l c a)), some (.int (nI k)), v18] [] n (cc + 80 + 4 * k) (qq + 900 + 24 * k) M1 o_262 := by
                                    intro fa
                                    induction fa with
                                    | zero => intro k M1 h1a h2a; omega
                                    | succ fa iha =>
                                      intro k M1 h1a h2a hJ
                                      refine k_iload hK ti_77_392 rfl ?_
                                      refine k_aload_n hK ti_77_394 rfl ?_
                                      refine k_iload hK ti_77_395 rfl ?_
                                      refine k_iconst hK ti_77_397 kI_5 ?_
                                      refine k_callV hK (as := [.int _, .int _]) (st' := [.int _]) ti_77_398 ow_77 iv_6_109 mc_77 ms_77 rfl rfl (by omega) (Nat.le_of_ble_eq_true rfl) (Nat.le_of_ble_eq_true rfl) (by omega) (by omega) (by omega) rfl ?_
                                      refine cf_about (by omega) c 5 hJ (by omega) (by omega) (fun M_398 hJ_398 => (k_aftv (nI (fts s (book l c a (prc s l c a)) c)) rfl ?_))
                                      replace hJ := hJ_398
                                      refine kn_ge hK (by omega) (by omega) ti_77_401 jt_401_24 (fun c_401 => ?_) (fun c_401 => ?_)
                                      · refine k_aload_n hK ti_77_404 rfl ?_
                                        refine k_iload hK ti_77_405 rfl ?_
                                        refine k_iload hK ti_77_407 rfl ?_
                                        refine k_callV hK (as := [.int _, .int _]) (st' := []) ti_77_409 ow_77 iv_6_112 mc_77 ms_77 rfl rfl (by omega) (Nat.le_of_ble_eq_true rfl) (Nat.le_of_ble_eq_true rfl) (by omega) (by omega) (by omega) rfl ?_
                                        refine cf_fit (by omega) c k hJ (by omega) (by omega) (fun M_409 hJ_409 => ?_)
                                        replace hJ := hJ_409
                                        refine k_iload hK ti_77_412 rfl ?_
                                        refine k_icmp_ne hK ti_77_414 jt_414_5 (fun c_414 => ?_) (fun c_414 => ?_)
                                        · exact absurd c_414 (fA_nb hA16 ha9)
                                        · refine k_iinc hK (L' := [some (.ref 1000), some (.ref 0), some (.ref S), some (.int _), some (.int _), some (.int _), some (.int _), some (.int _), some (.int _), some (.int _), some (.int _), some (.int _), some (.int _), some (.int _), some (.int _), some (.int _), some (.int _), some (.int (nI (k + 1))), v18]) ti_77_419 rfl (by rw [kI_1, nI_add]) rfl ?_
                                          refine k_goto hK ti_77_422 jt_422_m30 ?_
                                          refine k_wid hK (c' := cc + 80 + 4 * (k + 1)) (q' := qq + 900 + 24 * (k + 1)) (by omega) (by omega) ?_
                                          exact iha (k + 1) _ (by omega) (by omega) hJ
                                      · refine k_goto hK ti_77_425 jt_425_341 ?_
                                        refine k_wid hK (c' := cc + 200) (q' := qq + 2000) (by omega) (by omega) ?_
                                        exact h _ _ _ _ _ _ _ _ _ _ _ _ _ _ _ hJ hR
                                  refine k_wid hK (c' := cc + 80 + 4 * 0) (q' := qq + 900 + 24 * 0) (by omega) (by omega) ?_
                                  exact loopa ((fts s (book l c a (prc s l c a)) c) - 0 + 1) 0 _ (by omega) (by omega) hJ
                              · exact absurd rfl c_379
                            · exact absurd (by omega) c_365
                        · exact absurd (by omega) c_344
                    · exact absurd rfl c_321
                  · exact absurd rfl c_306
              · exact absurd rfl c_276
          · exact absurd rfl c_251

set_option maxRecDepth 100000 in
set_option maxHeartbeats 4000000 in
theorem law_428 {X : dp_X} {d n : Nat} {M : dp_M} {o : dp_O} {Q : dp_Q} {K : dp_K} {cc qq : Nat} (h65 : 65 ≤ n) (hK : dp_clo X (dp_run X (d + 9)) (d + 9 + 1) 77 Q K) (hcc : cc ≤ 500000) (hqq : qq ≤ 7000000) {S hs hw ha hc : Nat} {W C V B : Nat → Nat} {s : GSt} {l : LSt} (t : Nat) (x : Int32) {v9 v10 v11 v12 v13 v14 v15 v16 v17 v18 : Option Value} (ht : t < 24) (hR : SR o S hs hw ha hc W C V B s l) (hJ : JC M s l) (h : ∀ M' o' l' y7 y8 v9 v10 v11 v12 v13 v14 v15 v16 v17 v18, JC M' s l' → SR o' S hs hw ha hc W C V B s l' → K 766 [some (.ref 1000), some (.ref 0), some (.ref S), some (.int (nI t)), some (.int x), some (.int (nI (g_nA s))), some (.int (nI (g_nC s))), some (.int y7), some (.int y8), v9, v10, v11, v12, v13, v14, v15, v16, v17, v18] [] n (cc + 700) (qq + 10000) M' o') : K 428 [some (.ref 1000), some (.ref 0), some (.ref S), some (.int (nI t)), some (.int x), some (.int (nI (g_nA s))), some (.int (nI (g_nC s))), some (.int (nI (sntA s l))), some (.int (pdA s l)), v9, v10, v11, v12, v13, v14, v15, v16, v17, v18] [] n cc qq M o := by
  have hW := hJ.w
  have hA16 := hW.1
  have hC6 := hW.2.1
  refine k_iload hK ti_77_428 rfl ?_
  refine n_newI hK (g_nC s) ti_77_430 mc_77 ms_77 rfl (by omega) (by omega) (by omega) (fun p o_430 f_430 k_430 a_430 => ?_)
  have hR0 := hR
  have hk := k_430
  have n_p : o p = none := f_430
  have d_pa : p ≠ ha := (sm_ne hR0.age.sm f_430).symm
  have hp := a_430
  refine k_astore hK (L' := [some (.ref 1000), some (.ref 0), some (.ref S), some (.int _), some (.int _), some (.int _), some (.int _), some (.int _), some (.int _), some (.ref p), v10, v11, v12, v13, v14, v15, v16, v17, v18]) ti_77_432 rfl ?_
  refine k_iload hK ti_77_434 rfl ?_
  refine n_newI hK (g_nC s) ti_77_436 mc_77 ms_77 rfl (by omega) (by omega) (by omega) (fun r o_436 f_436 k_436 a_436 => ?_)
  have n_r : o r = none := hk.nn f_436
  have d_ra : r ≠ ha := (sm_ne hR0.age.sm n_r).symm
  have d_pr : p ≠ r := sm_ne hp.sm f_436
  replace hp := hp.kp k_436
  replace hk := hk.trans k_436
  have hr := a_436
  refine k_astore hK (L' := [some (.ref 1000), some (.ref 0), some (.ref S), some (.int _), some (.int _), some (.int _), some (.int _), some (.int _), some (.int _), some (.ref p), some (.ref r), v11, v12, v13, v14, v15, v16, v17, v18]) ti_77_438 rfl ?_
  refine k_iload hK ti_77_440 rfl ?_
  refine n_newI hK (g_nA s) ti_77_442 mc_77 ms_77 rfl (by omega) (by omega) (by omega) (fun u o_442 f_442 k_442 a_442 => ?_)
  have n_u : o u = none := hk.nn f_442
  have d_ua : u ≠ ha := (sm_ne hR0.age.sm n_u).symm
  have d_pu : p ≠ u := sm_ne hp.sm f_442
  have d_ru : r ≠ u := sm_ne hr.sm f_442
  replace hp := hp.kp k_442
  replace hr := hr.kp k_442
  replace hk := hk.trans k_442
  have hu := a_442
  refine k_astore hK (L' := [some (.ref 1000), some (.ref 0), some (.ref S), some (.int _), some (.int _), some (.int _), some (.int _), some (.int _), some (.int _), some (.ref p), some (.ref r), some (.ref u), v12, v13, v14, v15, v16, v17, v18]) ti_77_444 rfl ?_
  refine k_iconst hK ti_77_446 kI_0 ?_
  refine k_istore hK (L' := [some (.ref 1000), some (.ref 0), some (.ref S), some (.int _), some (.int _), some (.int _), some (.int _), some (.int _), some (.int _), some (.ref p), some (.ref r), some (.ref u), some (.int _), v13, v14, v15, v16, v17, v18]) ti_77_447 rfl ?_
  have loopa : ∀ (fa i : Nat) (M1 : dp_M) (o1 : dp_O), i ≤ (g_nC s) → (g_nC s) - i < fa → (JC M1 s l) → (Kp o o1) → (IA o1 p (g_nC s) (fun x => if x < i then l_coin l x else nI 0)) → (IA o1 r (g_nC s) (fun x => if x < i then nI (snt s l x) else nI 0)) → (IA o1 u (g_nA s) (fun _ => nI 0)) → K 449 [some (.ref 1000), some (.ref 0), some (.ref S), some (.int (nI t)), some (.int x), some (.int (nI (g_nA s))), some (.int (nI (g_nC s))), some (.int (nI (sntA s l))), some (.int (pdA s l)), some (.ref p), some (.ref r), some (.ref u), some (.int (nI i)), v13, v14, v15, v16, v17, v18] [] n (cc + 3 + 4 * i) (qq + 28 + 24 * i) M1 o1 := by
    intro fa
    induction fa with
    | zero => intro i M1 o1 h1a h2a; omega
    | succ fa iha =>
      intro i M1 o1 h1a h2a hJ hk hp hr hu
      refine k_iload hK ti_77_449 rfl ?_
      refine k_iload hK ti_77_451 rfl ?_
      refine kn_ge hK (by omega) (by omega) ti_77_453 jt_453_33 (fun c_453 => ?_) (fun c_453 => ?_)
      · refine k_aload hK ti_77_456 rfl ?_
        refine k_iload hK ti_77_458 rfl ?_
        refine k_aload_n hK ti_77_460 rfl ?_
        refine k_iload hK ti_77_461 rfl ?_
        refine k_iconst hK ti_77_463 kI_0 ?_
        refine k_callV hK (as := [.int _, .int _]) (st' := [.int _, .ref p]) ti_77_464 ow_77 iv_6_109 mc_77 ms_77 rfl rfl (by omega) (Nat.le_of_ble_eq_true rfl) (Nat.le_of_ble_eq_true rfl) (by omega) (by omega) (by omega) rfl ?_
        refine cf_about (by omega) i 0 hJ (by omega) (by omega) (fun M_464 hJ_464 => (k_aftv (l_coin l i) rfl ?_))
        replace hJ := hJ_464
        refine n_iast hK i ti_77_467 hp (by omega) rfl (by omega) (fun o_467 w_467 a_467 => ?_)
        have hr1 := hr.wr w_467 d_pr.symm
        refine k_aload hK ti_77_468 rfl ?_
        refine k_iload hK ti_77_470 rfl ?_
        refine k_aload_n hK ti_77_472 rfl ?_
        refine k_iload hK ti_77_473 rfl ?_
        refine k_iconst hK ti_77_475 kI_3 ?_
        refine k_callV hK (as := [.int _, .int _]) (st' := [.int _, .ref r]) ti_77_476 ow_77 iv_6_109 mc_77 ms_77 rfl rfl (by omega) (Nat.le_of_ble_eq_true rfl) (Nat.le_of_ble_eq_true rfl) (by omega) (by omega) (by omega) rfl ?_
        refine cf_about (by omega) i 3 hJ (by omega) (by omega) (fun M_476 hJ_476 => (k_aftv (nI (snt s l i)) rfl ?_))
        replace hJ := hJ_476
        refine n_iast hK i ti_77_479 hr1 (by omega) rfl (by omega) (fun o_479 w_479 a_479 => ?_)
        refine k_iinc hK (L' := [some (.ref 1000), some (.ref 0), some (.ref S), some (.int _), some (.int _), some (.int _), some (.int _), some (.int _), some (.int _), some (.ref p), some (.ref r), some (.ref u), some (.int (nI (i + 1))), v13, v14, v15, v16, v17, v18]) ti_77_480 rfl (by rw [kI_1, nI_add]) rfl ?_
        refine k_goto hK ti_77_483 jt_483_m34 ?_
        refine k_wid hK (c' := cc + 3 + 4 * (i + 1)) (q' := qq + 28 + 24 * (i + 1)) (by omega) (by omega) ?_
        exact iha (i + 1) _ _ (by omega) (by omega) hJ ((hk.wr n_p w_467).wr n_r w_479) ((a_467.congr (fun x hx => up_if (f := l_coin l) (g := fun _ => nI 0) rfl)).wr w_479 d_pr) (a_479.congr (fun x hx => up_if (f := fun k => nI (snt s l k)) (g := fun _ => nI 0) rfl)) ((hu.wr w_467 d_pu.symm).wr w_479 d_ru.symm)
      · obtain rfl : i = g_nC s := by omega
        have hp2 : IA o1 p (g_nC s) (l_coin l) := hp.congr (fun x hx => if_pos hx)
        have hr2 : IA o1 r (g_nC s) (fun k => nI (snt s l k)) := hr.congr (fun x hx => if_pos hx)
        refine k_iconst hK ti_77_486 kI_0 ?_
        refine k_istore hK (L' := [some (.ref 1000), some (.ref 0), some (.ref S), some (.int _), some (.int _), some (.int _), some (.int _), some (.int _), some (.int _), some (.ref p), some (.ref r), some (.ref u), some (.int _), v13, v14, v15, v16, v17, v18]) ti_77_487 rfl ?_
        have loopb : ∀ (fb a : Nat) (M1 : dp_M) (o1 : dp_O), a ≤ (g_nA s) → (g_nA s) - a < fb → (JC M1 s l) → (Kp o o1) → (IA o1 p (g_nC s) (l_coin l)) → (IA o1 r (g_nC s) (fun k => nI (snt s l k))) → (IA o1 u (g_nA s) (fun x => if x < a then l_age l x else nI 0)) → K 489 [some (.ref 1000), some (.ref 0), some (.ref S), some (.int (nI t)), some (.int x), some (.int (nI (g_nA s))), some (.int (nI (g_nC s))), some (.int (nI (sntA s l))), some (.int (pdA s l)), some (.ref p), some (.ref r), some (.ref u), some (.int (nI a)), v13, v14, v15, v16, v17, v18] [] n (cc + 27 + 2 * a) (qq + 172 + 12 * a) M1 o1 := by
          intro fb
          induction fb with
          | zero => intro a M1 o1 h1b h2b; omega
          | succ fb ihb =>
            intro a M1 o1 h1b h2b hJ hk hp hr hu
            refine k_iload hK ti_77_489 rfl ?_
            refine k_iload hK ti_77_491 rfl ?_
            refine kn_ge hK (by omega) (by omega) ti_77_493 jt_493_21 (fun c_493 => ?_) (fun c_493 => ?_)
            · refine k_aload hK ti_77_496 rfl ?_
              refine k_iload hK ti_77_498 rfl ?_
              refine k_aload_n hK ti_77_500 rfl ?_
              refine k_iload hK ti_77_501 rfl ?_
              refine k_iconst hK ti_77_503 kI_2 ?_
              refine k_callV hK (as := [.int _, .int _]) (st' := [.int _, .ref u]) ti_77_504 ow_77 iv_6_118 mc_77 ms_77 rfl rfl (by omega) (Nat.le_of_ble_eq_true rfl) (Nat.le_of_ble_eq_true rfl) (by omega) (by omega) (by omega) rfl ?_
              refine cf_told (by omega) a 2 hJ (by omega) (by omega) (fun M_504 hJ_504 => (k_aftv (l_age l a) rfl ?_))
              replace hJ := hJ_504
              refine n_iast hK a ti_77_507 hu (by omega) rfl (by omega) (fun o_507 w_507 a_507 => ?_)
              refine k_iinc hK (L' := [some (.ref 1000), some (.ref 0), some (.ref S), some (.int _), some (.int _), some (.int _), some (.int _), some (.int _), some (.int _), some (.ref p), some (.ref r), some (.ref u), some (.int (nI (a + 1))), v13, v14, v15, v16, v17, v18]) ti_77_508 rfl (by rw [kI_1, nI_add]) rfl ?_
              refine k_goto hK ti_77_511 jt_511_m22 ?_
              refine k_wid hK (c' := cc + 27 + 2 * (a + 1)) (q' := qq + 172 + 12 * (a + 1)) (by omega) (by omega) ?_
              exact ihb (a + 1) _ _ (by omega) (by omega) hJ (hk.wr n_u w_507) (hp.wr w_507 d_pu) (hr.wr w_507 d_ru) (a_507.congr (fun x hx => up_if (f := l_age l) (g := fun _ => nI 0) rfl))
            · obtain rfl : a = g_nA s := by omega
              replace hu : IA o1 u (g_nA s) (l_age l) := hu.congr (fun x hx => if_pos hx)
              have hR := hR0.kp hk
              refine k_aload_n hK ti_77_514 rfl ?_
              refine k_iconst hK ti_77_515 kI_4 ?_
              refine k_callV hK (as := [.int _]) (st' := []) ti_77_516 ow_77 iv_6_106 mc_77 ms_77 rfl rfl (by omega) (Nat.le_of_ble_eq_true rfl) (Nat.le_of_ble_eq_true rfl) (by omega) (by omega) (by omega) rfl ?_
              refine cf_count (by omega) 4 hJ (by omega) (fun M_516 hJ_516 => (k_aftv (l_rnd l) rfl ?_))
              replace hJ := hJ_516
              refine k_istore hK (L' := [some (.ref 1000), some (.ref 0), some (.ref S), some (.int _), some (.int _), some (.int _), some (.int _), some (.int _), some (.int _), some (.ref p), some (.ref r), some (.ref u), some (.int _), v13, v14, v15, v16, v17, v18]) ti_77_519 rfl ?_
              refine k_aload_n hK ti_77_521 rfl ?_
              refine k_callV hK (as := []) (st' := []) ti_77_522 ow_77 iv_6_121 mc_77 ms_77 rfl rfl (by omega) (Nat.le_of_ble_eq_true rfl) (Nat.le_of_ble_eq_true rfl) (by omega) (by omega) (by omega) rfl ?_
              refine cf_until (by omega) hJ (fun M_522 hJ_522 => ?_)
              replace hJ := hJ_522
              refine k_istore hK (L' := [some (.ref 1000), some (.ref 0), some (.ref S), some (.int _), some (.int _), some (.int _), some (.int _), some (.int _), some (.int _), some (.ref p), some (.ref r), some (.ref u), some (.int _), some (.int _), v14, v15, v16, v17, v18]) ti_77_525 rfl ?_
              refine k_aload_n hK ti_77_527 rfl ?_
              refine k_iconst hK ti_77_528 kI_1 ?_
              refine k_callV hK (as := [.int _]) (st' := []) ti_77_529 ow_77 iv_6_124 mc_77 ms_77 rfl rfl (by omega) (Nat.le_of_ble_eq_true rfl) (Nat.le_of_ble_eq_true rfl) (by omega) (by omega) (by omega) rfl ?_
              refine cf_pass (by omega) hJ (fun M_529 hJ_529 => ?_)
              replace hJ := hJ_529
              have hrd : rdn s l ≤ 2 * g_nC s := cnt_le _ _
              have hs96 := sntA_le hW l
              have hs97 := sntA_le hW (roundL s l)
              refine k_istore hK (L' := [some (.ref 1000), some (.ref 0), some (.ref S), some (.int _), some (.int _), some (.int _), some (.int _), some (.int _), some (.int _), some (.ref p), some (.ref r), some (.ref u), some (.int _), some (.int _), some (.int _), v15, v16, v17, v18]) ti_77_532 rfl ?_
              refine k_aload_n hK ti_77_534 rfl ?_
              refine k_callVd hK (as := []) (st' := []) ti_77_535 ow_77 iv_6_127 mc_77 ms_77 rfl rfl (by omega) (Nat.le_of_ble_eq_true rfl) (Nat.le_of_ble_eq_true rfl) (by omega) (by omega) hR.ob ?_
              refine sp_X5_pass (by omega) hW hR (fun o_535 z hR_535 hKI => ?_)
              replace hR := hR_535
              replace hp := hKI _ _ _ d_pa hp
              replace hr := hKI _ _ _ d_ra hr
              replace hu := hKI _ _ _ d_ua hu
              refine k_pop hK ti_77_538 rfl ?_
              refine k_iconst hK ti_77_539 kI_0 ?_
              refine k_istore hK (L' := [some (.ref 1000), some (.ref 0), some (.ref S), some (.int _), some (.int _), some (.int _), some (.int _), some (.int _), some (.int _), some (.ref p), some (.ref r), some (.ref u), some (.int _), some (.int _), some (.int _), some (.int _), v16, v17, v18]) ti_77_540 rfl ?_
              refine k_iconst hK ti_77_542 kI_0 ?_
              refine k_istore hK (L' := [some (.ref 1000), some (.ref 0), some (.ref S), some (.int _), some (.int _), some (.int _), some (.int _), some (.int _), some (.int _), some (.ref p), some (.ref r), some (.ref u), some (.int _), some (.int _), some (.int _), some (.int _), some (.int _), v17, v18]) ti_77_543 rfl ?_
              refine k_iconst hK ti_77_545 kI_0 ?_
              refine k_istore hK (L' := [some (.ref 1000), some (.ref 0), some (.ref S), some (.int _), some (.int _), some (.int _), some (.int _), some (.int _), some (.int _), some (.ref p), some (.ref r), some (.ref u), some (.int _), some (.int _), some (.int _), some (.int _), some (.int _), some (.int _), v18]) ti_77_546 rfl ?_
              have loopc : ∀ (fc c : Nat) (M1 : dp_M) (w18 : Option Value), c ≤ (g_nC s) → (g_nC s) - c < fc → (JC M1 s (roundL s l)) → K 548 [some (.ref 1000), some (.ref 0), some (.ref S), some (.int (nI t)), some (.int x), some (.int (nI (g_nA s))), some (.int (nI (g_nC s))), some (.int (nI (sntA s l))), some (.int (pdA s l)), some (.ref p), some (.ref r), some (.ref u), some (.int (l_rnd l)), some (.int (oI (unt s l))), some (.int (nI (rdn s l))), some (.int (sm c (fun c => l_coin l c - l_coin (roundL s l) c))), some (.int (nI (sN c (fun c => snt s (roundL s l) c - snt s l c)))), some (.int (nI c)), w18] [] n (cc + 500 + 10 * c) (qq + 9000 + 60 * c) M1 o_535 := by
                intro fc
                induction fc with
                | zero => intro c M1 w18 h1c h2c; omega
                | succ fc ihc =>
                  intro c M1 w18 h1c h2c hJ
                  refine k_iload hK ti_77_548 rfl ?_
                  refine k_iload hK ti_77_550 rfl ?_
                  refine kn_ge hK (by omega) (by omega) ti_77_552 jt_552_113 (fun c_552 => ?_) (fun c_552 => ?_)
                  · obtain ⟨b, t9, hb1, hb2, hb3, hb4, hb5, hb6⟩ := cr_round (s := s) (l := l) c_552
                    have hsl : snt s l c ≤ g_nA s := cnt_le _ _
                    refine k_iload hK ti_77_555 rfl ?_
                    refine k_aload hK ti_77_557 rfl ?_
                    refine k_iload hK ti_77_559 rfl ?_
                    refine n_iald hK ((l_coin l c)) c ti_77_561 hp (by omega) rfl (by omega) rfl ?_
                    refine k_aload_n hK ti_77_562 rfl ?_
                    refine k_iload hK ti_77_563 rfl ?_
                    refine k_iconst hK ti_77_565 kI_0 ?_
                    refine k_callV hK (as := [.int _, .int _]) (st' := [.int _, .int _]) ti_77_566 ow_77 iv_6_109 mc_77 ms_77 rfl rfl (by omega) (Nat.le_of_ble_eq_true rfl) (Nat.le_of_ble_eq_true rfl) (by omega) (by omega) (by omega) rfl ?_
                    refine cf_about (by omega) c 0 hJ (by omega) (by omega) (fun M_566 hJ_566 => (k_aftv (l_coin (roundL s l) c) rfl ?_))
                    replace hJ := hJ_566
                    refine k_isub hK (z := (l_coin l c - l_coin (roundL s l) c)) ti_77_569 rfl ?_
                    refine k_iadd hK (z := (sm (c + 1) (fun c => l_coin l c - l_coin (roundL s l) c))) ti_77_570 rfl ?_
                    refine k_istore hK (L' := [some (.ref 1000), some (.ref 0), some (.ref S), some (.int _), some (.int _), some (.int _), some (.int _), some (.int _), some (.int _), some (.ref p), some (.ref r), some (.ref u), some (.int _), some (.int _), some (.int _), some (.int _), some (.int _), some (.int _), w18]) ti_77_571 rfl ?_
                    refine k_iload hK ti_77_573 rfl ?_
                    refine k_aload_n hK ti_77_575 rfl ?_
                    refine k_iload hK ti_77_576 rfl ?_
                    refine k_iconst hK ti_77_578 kI_3 ?_
                    refine k_callV hK (as := [.int _, .int _]) (st' := [.int _]) ti_77_579 ow_77 iv_6_109 mc_77 ms_77 rfl rfl (by omega) (Nat.le_of_ble_eq_true rfl) (Nat.le_of_ble_eq_true rfl) (by omega) (by omega) (by omega) rfl ?_
                    refine cf_about (by omega) c 3 hJ (by omega) (by omega) (fun M_579 hJ_579 => (k_aftv (nI (snt s (roundL s l) c)) rfl ?_))
                    replace hJ := hJ_579
                    refine k_aload hK ti_77_582 rfl ?_
                    refine k_iload hK ti_77_584 rfl ?_
                    refine n_iald hK ((nI (snt s l c))) c ti_77_586 hr (by omega) rfl (by omega) rfl ?_
                    refine k_isub hK (z := (nI (snt s (roundL s l) c - (snt s l c)))) ti_77_587 (pk_sub (by omega)) ?_
                    refine k_iadd hK (z := (nI (sN (c + 1) (fun c => snt s (roundL s l) c - snt s l c)))) ti_77_588 (nI_add _ _) ?_
                    refine k_istore hK (L' := [some (.ref 1000), some (.ref 0), some (.ref S), some (.int _), some (.int _), some (.int _), some (.int _), some (.int _), some (.int _), some (.ref p), some (.ref r), some (.ref u), some (.int _), some (.int _), some (.int _), some (.int _), some (.int _), some (.int _), w18]) ti_77_589 rfl ?_
                    refine k_aload_n hK ti_77_591 rfl ?_
                    refine k_iload hK ti_77_592 rfl ?_
                    refine k_iconst hK ti_77_594 kI_3 ?_
                    refine k_callV hK (as := [.int _, .int _]) (st' := []) ti_77_595 ow_77 iv_6_109 mc_77 ms_77 rfl rfl (by omega) (Nat.le_of_ble_eq_true rfl) (Nat.le_of_ble_eq_true rfl) (by omega) (by omega) (by omega) rfl ?_
                    refine cf_about (by omega) c 3 hJ (by omega) (by omega) (fun M_595 hJ_595 => (k_aftv (nI (snt s (roundL s l) c)) rfl ?_))
                    replace hJ := hJ_595
                    refine k_aload hK ti_77_598 rfl ?_
                    refine k_iload hK ti_77_600 rfl ?_
                    refine n_iald hK ((nI (snt s l c))) c ti_77_602 hr (by omega) rfl (by omega) rfl ?_
                    refine k_isub hK (z := (nI (snt s (roundL s l) c - (snt s l c)))) ti_77_603 (pk_sub (by omega)) ?_
                    refine k_istore hK (L' := [some (.ref 1000), some (.ref 0), some (.ref S), some (.int _), some (.int _), some (.int _), some (.int _), some (.int _), some (.int _), some (.ref p), some (.ref r), some (.ref u), some (.int _), some (.int _), some (.int _), some (.int _), some (.int _), some (.int _), some (.int _)]) ti_77_604 rfl ?_
                    refine k_iload hK ti_77_606 rfl ?_
                    refine kz_lt hK (by omega) ti_77_608 jt_608_49 ?_
                    refine k_iload hK ti_77_611 rfl ?_
                    refine k_iconst hK ti_77_613 kI_2 ?_
                    refine kn_gt hK (by omega) (by omega) ti_77_614 jt_614_43 (fun c_614 => ?_) (fun c_614 => ?_)
                    · exact absurd c_614 (by omega)
                    · refine k_aload hK ti_77_617 rfl ?_
                      refine k_iload hK ti_77_619 rfl ?_
                      refine n_iald hK ((l_coin l c)) c ti_77_621 hp (by omega) rfl (by omega) rfl ?_
                      refine k_aload_n hK ti_77_622 rfl ?_
                      refine k_iload hK ti_77_623 rfl ?_
                      refine k_iconst hK ti_77_625 kI_0 ?_
                      refine k_callV hK (as := [.int _, .int _]) (st' := [.int _]) ti_77_626 ow_77 iv_6_109 mc_77 ms_77 rfl rfl (by omega) (Nat.le_of_ble_eq_true rfl) (Nat.le_of_ble_eq_true rfl) (by omega) (by omega) (by omega) rfl ?_
                      refine cf_about (by omega) c 0 hJ (by omega) (by omega) (fun M_626 hJ_626 => (k_aftv (l_coin (roundL s l) c) rfl ?_))
                      replace hJ := hJ_626
                      refine k_isub hK (z := (nI t9)) ti_77_629 (i32_ss hb3) ?_
                      refine k_iconst hK ti_77_630 kI_2 ?_
                      refine k_iload hK ti_77_631 rfl ?_
                      refine k_imul hK (z := (nI (2 * (snt s (roundL s l) c - (snt s l c))))) ti_77_633 (pk_mul _ _) ?_
                      refine kn_lt hK (by omega) (by omega) ti_77_634 jt_634_23 (fun c_634 => ?_) (fun c_634 => ?_)
                      · exact absurd c_634 (by omega)
                      · refine k_iload hK ti_77_637 rfl ?_
                        refine kz_ne hK (by omega) ti_77_639 jt_639_20 (fun c_639 => ?_) (fun c_639 => ?_)
                        · refine k_aload hK ti_77_642 rfl ?_
                          refine k_iload hK ti_77_644 rfl ?_
                          refine n_iald hK ((l_coin l c)) c ti_77_646 hp (by omega) rfl (by omega) rfl ?_
                          refine k_aload_n hK ti_77_647 rfl ?_
                          refine k_iload hK ti_77_648 rfl ?_
                          refine k_iconst hK ti_77_650 kI_0 ?_
                          refine k_callV hK (as := [.int _, .int _]) (st' := [.int _]) ti_77_651 ow_77 iv_6_109 mc_77 ms_77 rfl rfl (by omega) (Nat.le_of_ble_eq_true rfl) (Nat.le_of_ble_eq_true rfl) (by omega) (by omega) (by omega) rfl ?_
                          refine cf_about (by omega) c 0 hJ (by omega) (by omega) (fun M_651 hJ_651 => (k_aftv (l_coin (roundL s l) c) rfl ?_))
                          replace hJ := hJ_651
                          refine k_icmp_eq hK ti_77_654 jt_654_5 (fun c_654 => ?_) (fun c_654 => ?_)
                          · refine k_iinc hK (L' := [some (.ref 1000), some (.ref 0), some (.ref S), some (.int _), some (.int _), some (.int _), some (.int _), some (.int _), some (.int _), some (.ref p), some (.ref r), some (.ref u), some (.int _), some (.int _), some (.int _), some (.int _), some (.int _), some (.int (nI (c + 1))), some (.int _)]) ti_77_659 rfl (by rw [kI_1, nI_add]) rfl ?_
                            refine k_goto hK ti_77_662 jt_662_m114 ?_
                            refine k_wid hK (c' := cc + 500 + 10 * (c + 1)) (q' := qq + 9000 + 60 * (c + 1)) (by omega) (by omega) ?_
                            exact ihc (c + 1) _ _ (by omega) (by omega) hJ
                          · exact absurd (by rw [hb3, show t9 = 0 by omega, nI_0]; exact (Int32.sub_zero _).symm) c_654
                        · refine k_iinc hK (L' := [some (.ref 1000), some (.ref 0), some (.ref S), some (.int _), some (.int _), some (.int _), some (.int _), some (.int _), some (.int _), some (.ref p), some (.ref r), some (.ref u), some (.int _), some (.int _), some (.int _), some (.int _), some (.int _), some (.int (nI (c + 1))), some (.int _)]) ti_77_659 rfl (by rw [kI_1, nI_add]) rfl ?_
                          refine k_goto hK ti_77_662 jt_662_m114 ?_
                          refine k_wid hK (c' := cc + 500 + 10 * (c + 1)) (q' := qq + 9000 + 60 * (c + 1)) (by omega) (by omega) ?_
                          exact ihc (c + 1) _ _ (by omega) (by omega) hJ
                  · obtain rfl : c = g_nC s := by omega
                    have e8 := cr_rdn (s := s) (l := l)
                    refine k_iload hK ti_77_665 rfl ?_
                    refine k_iload hK ti_77_667 rfl ?_
                    refine kn_ne hK (by omega) (by omega) ti_77_669 jt_669_42 (fun c_669 => ?_) (fun c_669 => ?_)
                    · refine k_aload_n hK ti_77_672 rfl ?_
                      refine k_iconst hK ti_77_673 kI_5 ?_
                      refine k_callV hK (as := [.int _]) (st' := []) ti_77_674 ow_77 iv_6_106 mc_77 ms_77 rfl rfl (by omega) (Nat.le_of_ble_eq_true rfl) (Nat.le_of_ble_eq_true rfl) (by omega) (by omega) (by omega) rfl ?_
                      refine cf_count (by omega) 5 hJ (by omega) (fun M_674 hJ_674 => (k_aftv (nI (sntA s (roundL s l))) rfl ?_))
                      replace hJ := hJ_674
                      refine k_iload hK ti_77_677 rfl ?_
                      refine k_iload hK ti_77_679 rfl ?_
                      refine k_iadd hK (z := (nI (sntA s l + rdn s l))) ti_77_681 (nI_add _ _) ?_
                      refine kn_ne hK (by omega) (by omega) ti_77_682 jt_682_29 (fun c_682 => ?_) (fun c_682 => ?_)
                      · refine k_aload_n hK ti_77_685 rfl ?_
                        refine k_bipush hK ti_77_686 kB_6 ?_
                        refine k_callV hK (as := [.int _]) (st' := []) ti_77_688 ow_77 iv_6_106 mc_77 ms_77 rfl rfl (by omega) (Nat.le_of_ble_eq_true rfl) (Nat.le_of_ble_eq_true rfl) (by omega) (by omega) (by omega) rfl ?_
                        refine cf_count (by omega) 6 hJ (by omega) (fun M_688 hJ_688 => (k_aftv (pdA s l + sm (g_nC s) (fun c => l_coin l c - l_coin (roundL s l) c)) cr_pdA ?_))
                        replace hJ := hJ_688
                        refine k_iload hK ti_77_691 rfl ?_
                        refine k_iload hK ti_77_693 rfl ?_
                        refine k_iadd hK (z := (pdA s l + sm (g_nC s) (fun c => l_coin l c - l_coin (roundL s l) c))) ti_77_695 rfl ?_
                        refine k_icmp_ne hK ti_77_696 jt_696_15 (fun c_696 => ?_) (fun c_696 => ?_)
                        · refine k_aload_n hK ti_77_699 rfl ?_
                          refine k_iconst hK ti_77_700 kI_4 ?_
                          refine k_callV hK (as := [.int _]) (st' := []) ti_77_701 ow_77 iv_6_106 mc_77 ms_77 rfl rfl (by omega) (Nat.le_of_ble_eq_true rfl) (Nat.le_of_ble_eq_true rfl) (by omega) (by omega) (by omega) rfl ?_
                          refine cf_count (by omega) 4 hJ (by omega) (fun M_701 hJ_701 => (k_aftv (l_rnd l + nI 1) rnd_round ?_))
                          replace hJ := hJ_701
                          refine k_iload hK ti_77_704 rfl ?_
                          refine k_iconst hK ti_77_706 kI_1 ?_
                          refine k_iadd hK (z := (l_rnd l + nI 1)) ti_77_707 rfl ?_
                          refine k_icmp_eq hK ti_77_708 jt_708_5 (fun c_708 => ?_) (fun c_708 => ?_)
                          · refine k_iconst hK ti_77_713 kI_0 ?_
                            refine k_istore hK (L' := [some (.ref 1000), some (.ref 0), some (.ref S), some (.int _), some (.int _), some (.int _), some (.int _), some (.int _), some (.int _), some (.ref p), some (.ref r), some (.ref u), some (.int _), some (.int _), some (.int _), some (.int _), some (.int _), some (.int _), w18]) ti_77_714 rfl ?_
                            have loopd : ∀ (fd a : Nat) (M1 : dp_M), a ≤ (g_nA s) → (g_nA s) - a < fd → (JC M1 s (roundL s l)) → K 716 [some (.ref 1000), some (.ref 0), some (.ref S), some (.int (nI t)), some (.int x), some (.int (nI (g_nA s))), some (.int (nI (g_nC s))), some (.int (nI (sntA s l))), some (.int (pdA s l)), some (.ref p), some (.ref r), some (.ref u), some (.int (l_rnd l)), some (.int (oI (unt s l))), some (.int (nI (rdn s l))), some (.int (sm (g_nC s) (fun c => l_coin l c - l_coin (roundL s l) c))), some (.int (nI (sN (g_nC s) (fun c => snt s (roundL s l) c - snt s l c)))), some (.int (nI a)), w18] [] n (cc + 600 + 2 * a) (qq + 9500 + 12 * a) M1 o_535 := by
                              intro fd
                              induction fd with
                              | zero => intro a M1 h1d h2d; omega
                              | succ fd ihd =>
                                intro a M1 h1d h2d hJ
                                refine k_iload hK ti_77_716 rfl ?_
                                refine k_iload hK ti_77_718 rfl ?_
                                refine kn_ge hK (by omega) (by omega) ti_77_720 jt_720_28 (fun c_720 => ?_) (fun c_720 => ?_)
                                · refine k_aload_n hK ti_77_723 rfl ?_
                                  refine k_iload hK ti_77_724 rfl ?_
                                  refine k_iconst hK ti_77_726 kI_2 ?_
                                  refine k_callV hK (as := [.int _, .int _]) (st' := []) ti_77_727 ow_77 iv_6_118 mc_77 ms_77 rfl rfl (by omega) (Nat.le_of_ble_eq_true rfl) (Nat.le_of_ble_eq_true rfl) (by omega) (by omega) (by omega) rfl ?_
                                  refine cf_told (by omega) a 2 hJ (by omega) (by omega) (fun M_727 hJ_727 => (k_aftv (l_age l a + nI 1) (age_round (by omega)) ?_))
                                  replace hJ := hJ_727
                                  refine k_aload hK ti_77_730 rfl ?_
                                  refine k_iload hK ti_77_732 rfl ?_
                                  refine n_iald hK ((l_age l a)) a ti_77_734 hu (by omega) rfl (by omega) rfl ?_
                                  refine k_iconst hK ti_77_735 kI_1 ?_
                                  refine k_iadd hK (z := (l_age l a + nI 1)) ti_77_736 rfl ?_
                                  refine k_icmp_eq hK ti_77_737 jt_737_5 (fun c_737 => ?_) (fun c_737 => ?_)
                                  · refine k_iinc hK (L' := [some (.ref 1000), some (.ref 0), some (.ref S), some (.int _), some (.int _), some (.int _), some (.int _), some (.int _), some (.int _), some (.ref p), some (.ref r), some (.ref u), some (.int _), some (.int _), some (.int _), some (.int _), some (.int _), some (.int (nI (a + 1))), w18]) ti_77_742 rfl (by rw [kI_1, nI_add]) rfl ?_
                                    refine k_goto hK ti_77_745 jt_745_m29 ?_
                                    refine k_wid hK (c' := cc + 600 + 2 * (a + 1)) (q' := qq + 9500 + 12 * (a + 1)) (by omega) (by omega) ?_
                                    exact ihd (a + 1) _ (by omega) (by omega) hJ
                                  · exact absurd rfl c_737
                                · obtain rfl : a = g_nA s := by omega
                                  refine k_iload hK ti_77_748 rfl ?_
                                  refine k_if_le hK ti_77_750 jt_750_16 (fun c_750 => ?_) (fun c_750 => ?_)
                                  · refine k_aload_n hK ti_77_753 rfl ?_
                                    refine k_callV hK (as := []) (st' := []) ti_77_754 ow_77 iv_6_121 mc_77 ms_77 rfl rfl (by omega) (Nat.le_of_ble_eq_true rfl) (Nat.le_of_ble_eq_true rfl) (by omega) (by omega) (by omega) rfl ?_
                                    refine cf_until (by omega) hJ (fun M_754 hJ_754 => ?_)
                                    replace hJ := hJ_754
                                    refine k_iload hK ti_77_757 rfl ?_
                                    refine k_iconst hK ti_77_759 kI_1 ?_
                                    refine k_isub hK (z := (oI (unt s l) - nI 1)) ti_77_760 rfl ?_
                                    refine k_icmp_eq hK ti_77_761 jt_761_5 (fun c_761 => ?_) (fun c_761 => ?_)
                                    · refine k_wid hK (c' := cc + 700) (q' := qq + 10000) (by omega) (by omega) ?_
                                      exact h _ _ _ _ _ _ _ _ _ _ _ _ _ _ _ hJ hR
                                    · exact absurd (unt_round c_750) c_761
                                  · refine k_wid hK (c' := cc + 700) (q' := qq + 10000) (by omega) (by omega) ?_
                                    exact h _ _ _ _ _ _ _ _ _ _ _ _ _ _ _ hJ hR
                            refine k_wid hK (c' := cc + 600 + 2 * 0) (q' := qq + 9500 + 12 * 0) (by omega) (by omega) ?_
                            exact loopd ((g_nA s) - 0 + 1) 0 _ (by omega) (by omega) hJ
                          · exact absurd rfl c_708
                        · exact absurd rfl c_696
                      · exact absurd sntA_round c_682
                    · exact absurd e8 c_669
              refine k_wid hK (c' := cc + 500 + 10 * 0) (q' := qq + 9000 + 60 * 0) (by omega) (by omega) ?_
              exact loopc ((g_nC s) - 0 + 1) 0 _ _ (by omega) (by omega) hJ
        refine k_wid hK (c' := cc + 27 + 2 * 0) (q' := qq + 172 + 12 * 0) (by omega) (by omega) ?_
        exact loopb ((g_nA s) - 0 + 1) 0 _ _ (by omega) (by omega) hJ hk hp2 hr2 (hu.congr (fun x hx => (if_neg (Nat.not_lt_zero x)).symm))
  refine k_wid hK (c' := cc + 3 + 4 * 0) (q' := qq + 28 + 24 * 0) (by omega) (by omega) ?_
  exact loopa ((g_nC s) - 0 + 1) 0 _ _ (by omega) (by omega) hJ hk (hp.congr (fun x hx => (if_neg (Nat.not_lt_zero x)).symm)) (hr.congr (fun x hx => (if_neg (Nat.not_lt_zero x)).symm)) hu

set_option maxRecDepth 100000 in
set_option maxHeartbeats 4000000 in
theorem law_run {X : dp_X} {d n : Nat} {M : dp_M} {o : dp_O} {Q : dp_Q} {K : dp_K} {cc qq : Nat} (h65 : 65 ≤ n) (hK : dp_clo X (dp_run X (d + 9)) (d + 9 + 1) 77 Q K) (hX : X.1 < 2 ^ 31) (hcc : cc ≤ 1000) (hqq : qq ≤ 10000) (hJ : JC M s00 l00) (h : ∀ M' o', Q (.inl (some (.int (nI 1)))) M' o') : K 8 [some (.ref 1000), some (.ref 0), none, none, none, none, none, none, none, none, none, none, none, none, none, none, none, none, none] [] n cc qq M o := by
  refine k_aload_n hK ti_77_8 rfl ?_
  refine k_aload_n hK ti_77_9 rfl ?_
  refine k_callS hK (as := [.ref 0, .ref 1000]) (st' := []) ti_77_10 ow_77 iv_6_102 mc_77 ms_77 rfl rfl (by omega) (Nat.le_of_ble_eq_true rfl) (Nat.le_of_ble_eq_true rfl) (by omega) (by omega) ?_
  refine sp_L_build (by omega) hX hJ (fun M_10 o_10 S hs hw ha hc W C V B s l hJ_10 hR => ?_)
  replace hJ := hJ_10
  refine k_astore_n hK (L' := [some (.ref 1000), some (.ref 0), some (.ref S), none, none, none, none, none, none, none, none, none, none, none, none, none, none, none, none]) ti_77_13 rfl ?_
  refine k_aload_n hK ti_77_14 rfl ?_
  refine k_ifnn hK ti_77_15 jt_15_5 ?_
  refine k_iconst hK ti_77_20 kI_0 ?_
  refine k_istore_n hK (L' := [some (.ref 1000), some (.ref 0), some (.ref S), some (.int _), none, none, none, none, none, none, none, none, none, none, none, none, none, none, none]) ti_77_21 rfl ?_
  have loop : ∀ (f t : Nat) (M1 : dp_M) (o1 : dp_O) (hw : Nat) (hc : Nat) (W : Nat → Nat) (C : Nat → Nat) (V : Nat → Nat) (B : Nat → Nat) (s : GSt) (l : LSt) (v4 : Option Value) (v5 : Option Value) (v6 : Option Value) (v7 : Option Value) (v8 : Option Value) (v9 : Option Value) (v10 : Option Value) (v11 : Option Value) (v12 : Option Value) (v13 : Option Value) (v14 : Option Value) (v15 : Option Value) (v16 : Option Value) (v17 : Option Value) (v18 : Option Value), t ≤ 24 → 24 - t < f → (JC M1 s l) → (SR o1 S hs hw ha hc W C V B s l) → K 22 [some (.ref 1000), some (.ref 0), some (.ref S), some (.int (nI t)), v4, v5, v6, v7, v8, v9, v10, v11, v12, v13, v14, v15, v16, v17, v18] [] n (cc + 13000 + 2000 * t) (qq + 200000 + 20000 * t) M1 o1 := by
    intro f
    induction f with
    | zero => intro t M1 o1 hw hc W C V B s l v4 v5 v6 v7 v8 v9 v10 v11 v12 v13 v14 v15 v16 v17 v18 h1 h2; omega
    | succ f ih =>
      intro t M1 o1 hw hc W C V B s l v4 v5 v6 v7 v8 v9 v10 v11 v12 v13 v14 v15 v16 v17 v18 h1 h2 hJ hR
      refine k_iload_n hK ti_77_22 rfl ?_
      refine k_bipush hK ti_77_23 kB_24 ?_
      refine kn_ge hK (by omega) (by omega) ti_77_25 jt_25_820 (fun c_25 => ?_) (fun c_25 => ?_)
      · have hW := hJ.w
        have hA16 := hW.1
        have hC6 := hW.2.1
        refine k_aload_n hK ti_77_28 rfl ?_
        refine k_iload_n hK ti_77_29 rfl ?_
        refine k_bipush hK ti_77_30 kB_16 ?_
        refine k_irem hK (z := (nI (t % 16))) ti_77_32 (nI_ne0 (by omega) (by omega)) (nI_rem (by omega) (by omega) (by omega)) ?_
        refine k_callS hK (as := [.ref 1000, .int _]) (st' := []) ti_77_33 ow_77 iv_6_93 mc_77 ms_77 rfl rfl (by omega) (Nat.le_of_ble_eq_true rfl) (Nat.le_of_ble_eq_true rfl) (by omega) (by omega) ?_
        refine sp_L_cell (by omega) (t % 16) (by omega) hX (fun x9 => ?_)
        refine k_iload_n hK ti_77_36 rfl ?_
        refine k_bipush hK ti_77_37 kB_16 ?_
        refine k_idiv hK ti_77_39 (by decide) rfl ?_
        refine k_iconst hK ti_77_40 kI_3 ?_
        refine k_imul hK ti_77_41 rfl ?_
        refine k_ishr hK ti_77_42 rfl ?_
        refine k_sipush hK ti_77_43 kS_307 ?_
        refine k_iload_n hK ti_77_46 rfl ?_
        refine k_imul hK (z := (nI (307 * t))) ti_77_47 (pk_mul _ _) ?_
        refine k_iadd hK ti_77_48 rfl ?_
        refine k_istore hK (L' := [some (.ref 1000), some (.ref 0), some (.ref S), some (.int _), some (.int _), v5, v6, v7, v8, v9, v10, v11, v12, v13, v14, v15, v16, v17, v18]) ti_77_49 rfl ?_
        refine k_iconst hK ti_77_51 kI_0 ?_
        refine k_istore hK (L' := [some (.ref 1000), some (.ref 0), some (.ref S), some (.int _), some (.int _), some (.int _), v6, v7, v8, v9, v10, v11, v12, v13, v14, v15, v16, v17, v18]) ti_77_52 rfl ?_
        have loopb : ∀ (fb j : Nat) (M1 : dp_M) (o1 : dp_O) (hw : Nat) (hc : Nat) (W : Nat → Nat) (C : Nat → Nat) (V : Nat → Nat) (B : Nat → Nat) (s : GSt) (l : LSt) (y9 : Int32), j ≤ 2 → 2 - j < fb → (JC M1 s l) → (SR o1 S hs hw ha hc W C V B s l) → K 54 [some (.ref 1000), some (.ref 0), some (.ref S), some (.int (nI t)), some (.int y9), some (.int (nI j)), v6, v7, v8, v9, v10, v11, v12, v13, v14, v15, v16, v17, v18] [] n (cc + 13000 + 2000 * t + 200 * j) (qq + 200000 + 20000 * t + 3000 * j) M1 o1 := by
          intro fb
          induction fb with
          | zero => intro j M1 o1 hw hc W C V B s l y9 h1b h2b; omega
          | succ fb ihb =>
            intro j M1 o1 hw hc W C V B s l y9 h1b h2b hJ hR
            refine k_iload hK ti_77_54 rfl ?_
            refine k_iconst hK ti_77_56 kI_2 ?_
            refine kn_ge hK (by omega) (by omega) ti_77_57 jt_57_33 (fun c_57 => ?_) (fun c_57 => ?_)
            · refine k_aload_n hK ti_77_60 rfl ?_
              refine k_aload_n hK ti_77_61 rfl ?_
              refine k_iload hK ti_77_62 rfl ?_
              refine k_iconst hK ti_77_64 kI_2 ?_
              refine k_iload hK ti_77_65 rfl ?_
              refine k_imul hK (z := (nI (2 * j))) ti_77_67 (pk_mul _ _) ?_
              refine k_ishr hK ti_77_68 rfl ?_
              refine k_sipush hK ti_77_69 kS_223 ?_
              refine k_iload hK ti_77_72 rfl ?_
              refine k_imul hK (z := (nI (223 * j))) ti_77_74 (pk_mul _ _) ?_
              refine k_iadd hK ti_77_75 rfl ?_
              refine k_callS hK (as := [.ref 0, .ref S, .int _]) (st' := []) ti_77_76 ow_77 iv_6_97 mc_77 ms_77 rfl rfl (by omega) (Nat.le_of_ble_eq_true rfl) (Nat.le_of_ble_eq_true rfl) (by omega) (by omega) ?_
              refine sp_L_act (by omega) _ hR hJ (fun M_76 o_76 s_76 l_76 hw_76 hc_76 W_76 C_76 V_76 B_76 _ hJ_76 hR_76 => ?_)
              refine kz_ne hK (by omega) ti_77_79 jt_79_5 (fun c_79 => ?_) (fun c_79 => ?_)
              · exact absurd c_79 (by decide)
              · refine k_iinc hK (L' := [some (.ref 1000), some (.ref 0), some (.ref S), some (.int _), some (.int _), some (.int (nI (j + 1))), v6, v7, v8, v9, v10, v11, v12, v13, v14, v15, v16, v17, v18]) ti_77_84 rfl (by rw [kI_1, nI_add]) rfl ?_
                refine k_goto hK ti_77_87 jt_87_m33 ?_
                refine k_wid hK (c' := cc + 13000 + 2000 * t + 200 * (j + 1)) (q' := qq + 200000 + 20000 * t + 3000 * (j + 1)) (by omega) (by omega) ?_
                exact ihb (j + 1) _ _ _ _ _ _ _ _ _ _ _ (by omega) (by omega) hJ_76 hR_76
            · obtain rfl : j = 2 := by omega
              have hW := hJ.w
              have hA16 := hW.1
              have hC6 := hW.2.1
              have hs96 := sntA_le hW l
              refine k_aload_n hK ti_77_90 rfl ?_
              refine k_iconst hK ti_77_91 kI_0 ?_
              refine k_callV hK (as := [.int _]) (st' := []) ti_77_92 ow_77 iv_6_106 mc_77 ms_77 rfl rfl (by omega) (Nat.le_of_ble_eq_true rfl) (Nat.le_of_ble_eq_true rfl) (by omega) (by omega) (by omega) rfl ?_
              refine cf_count (by omega) 0 hJ (by omega) (fun M_92 hJ_92 => (k_aftv (nI (g_nA s)) rfl ?_))
              replace hJ := hJ_92
              refine k_istore hK (L' := [some (.ref 1000), some (.ref 0), some (.ref S), some (.int _), some (.int _), some (.int _), v6, v7, v8, v9, v10, v11, v12, v13, v14, v15, v16, v17, v18]) ti_77_95 rfl ?_
              refine k_aload_n hK ti_77_97 rfl ?_
              refine k_iconst hK ti_77_98 kI_1 ?_
              refine k_callV hK (as := [.int _]) (st' := []) ti_77_99 ow_77 iv_6_106 mc_77 ms_77 rfl rfl (by omega) (Nat.le_of_ble_eq_true rfl) (Nat.le_of_ble_eq_true rfl) (by omega) (by omega) (by omega) rfl ?_
              refine cf_count (by omega) 1 hJ (by omega) (fun M_99 hJ_99 => (k_aftv (nI (g_nC s)) rfl ?_))
              replace hJ := hJ_99
              refine k_istore hK (L' := [some (.ref 1000), some (.ref 0), some (.ref S), some (.int _), some (.int _), some (.int _), some (.int _), v7, v8, v9, v10, v11, v12, v13, v14, v15, v16, v17, v18]) ti_77_102 rfl ?_
              refine k_aload_n hK ti_77_104 rfl ?_
              refine k_iconst hK ti_77_105 kI_5 ?_
              refine k_callV hK (as := [.int _]) (st' := []) ti_77_106 ow_77 iv_6_106 mc_77 ms_77 rfl rfl (by omega) (Nat.le_of_ble_eq_true rfl) (Nat.le_of_ble_eq_true rfl) (by omega) (by omega) (by omega) rfl ?_
              refine cf_count (by omega) 5 hJ (by omega) (fun M_106 hJ_106 => (k_aftv (nI (sntA s l)) rfl ?_))
              replace hJ := hJ_106
              refine k_istore hK (L' := [some (.ref 1000), some (.ref 0), some (.ref S), some (.int _), some (.int _), some (.int _), some (.int _), some (.int _), v8, v9, v10, v11, v12, v13, v14, v15, v16, v17, v18]) ti_77_109 rfl ?_
              refine k_aload_n hK ti_77_111 rfl ?_
              refine k_bipush hK ti_77_112 kB_6 ?_
              refine k_callV hK (as := [.int _]) (st' := []) ti_77_114 ow_77 iv_6_106 mc_77 ms_77 rfl rfl (by omega) (Nat.le_of_ble_eq_true rfl) (Nat.le_of_ble_eq_true rfl) (by omega) (by omega) (by omega) rfl ?_
              refine cf_count (by omega) 6 hJ (by omega) (fun M_114 hJ_114 => (k_aftv (pdA s l) rfl ?_))
              replace hJ := hJ_114
              refine k_istore hK (L' := [some (.ref 1000), some (.ref 0), some (.ref S), some (.int _), some (.int _), some (.int _), some (.int _), some (.int _), some (.int _), v9, v10, v11, v12, v13, v14, v15, v16, v17, v18]) ti_77_117 rfl ?_
              have j766 : ∀ M1 o1 l1 y7 y8 v9 v10 v11 v12 v13 v14 v15 v16 v17 v18, JC M1 s l1 → SR o1 S hs hw ha hc W C V B s l1 → K 766 [some (.ref 1000), some (.ref 0), some (.ref S), some (.int (nI t)), some (.int y9), some (.int (nI (g_nA s))), some (.int (nI (g_nC s))), some (.int y7), some (.int y8), v9, v10, v11, v12, v13, v14, v15, v16, v17, v18] [] n (cc + 13000 + 2000 * t + 1104) (qq + 200000 + 20000 * t + 16024) M1 o1 := by
                intro M1 o1 l1 y7 y8 v9 v10 v11 v12 v13 v14 v15 v16 v17 v18 hJ hR
                refine law_766 (by omega) hK (by omega) (by omega) t _ (by omega) hR hJ (fun M2 v9 v10 v11 hJ => ?_)
                refine k_iinc hK (L' := [some (.ref 1000), some (.ref 0), some (.ref S), some (.int (nI (t + 1))), some (.int _), some (.int _), some (.int _), some (.int _), some (.int _), v9, v10, v11, v12, v13, v14, v15, v16, v17, v18]) ti_77_839 rfl (by rw [kI_1, nI_add]) rfl ?_
                refine k_goto hK ti_77_842 jt_842_m820 ?_
                refine k_wid hK (c' := cc + 13000 + 2000 * (t + 1)) (q' := qq + 200000 + 20000 * (t + 1)) (by omega) (by omega) ?_
                exact ih (t + 1) _ _ _ _ _ _ _ _ _ _ _ _ _ _ _ _ _ _ _ _ _ _ _ _ _ (by omega) (by omega) hJ hR
              have j428 : K 428 [some (.ref 1000), some (.ref 0), some (.ref S), some (.int (nI t)), some (.int y9), some (.int (nI (g_nA s))), some (.int (nI (g_nC s))), some (.int (nI (sntA s l))), some (.int (pdA s l)), v9, v10, v11, v12, v13, v14, v15, v16, v17, v18] [] n (cc + 13000 + 2000 * t + 404) (qq + 200000 + 20000 * t + 6024) M_114 o1 := by
                refine law_428 (by omega) hK (by omega) (by omega) t _ (by omega) hR hJ (fun M2 o2 l2 y7 y8 v9 v10 v11 v12 v13 v14 v15 v16 v17 v18 hJ hR => ?_)
                exact j766 _ _ _ _ _ _ _ _ _ _ _ _ _ _ _ hJ hR
              refine k_wid hK (c' := cc + 13000 + 2000 * t + 404) (q' := qq + 200000 + 20000 * t + 6024) (by omega) (by omega) ?_
              refine k_iload hK ti_77_119 rfl ?_
              refine kz_le hK (by omega) ti_77_121 jt_121_307 (fun c_121 => ?_) (fun c_121 => ?_)
              · refine k_iload_n hK ti_77_124 rfl ?_
                refine k_iconst hK ti_77_125 kI_2 ?_
                refine k_irem hK (z := (nI (t % 2))) ti_77_126 (nI_ne0 (by omega) (by omega)) (nI_rem (by omega) (by omega) (by omega)) ?_
                refine kz_ne hK (by omega) ti_77_127 jt_127_301 (fun c_127 => ?_) (fun c_127 => ?_)
                · refine law_130 (by omega) hK (by omega) (by omega) t _ (by omega) hR hJ c_121 (fun M2 o2 l2 y7 y8 v9 v10 v11 v12 v13 v14 v15 v16 v17 v18 hJ hR => ?_)
                  refine k_wid hK (c' := cc + 13000 + 2000 * t + 1104) (q' := qq + 200000 + 20000 * t + 16024) (by omega) (by omega) ?_
                  exact j766 _ _ _ _ _ _ _ _ _ _ _ _ _ _ _ hJ hR
                · exact j428
              · exact j428
        refine k_wid hK (c' := cc + 13000 + 2000 * t + 200 * 0) (q' := qq + 200000 + 20000 * t + 3000 * 0) (by omega) (by omega) ?_
        exact loopb (2 - 0 + 1) 0 _ _ _ _ _ _ _ _ _ _ _ (by omega) (by omega) hJ hR
      · obtain rfl : t = 24 := by omega
        have hW := hJ.w
        refine k_aload_n hK ti_77_845 rfl ?_
        refine k_aload_n hK ti_77_846 rfl ?_
        refine k_callVd hK (as := [.ref 0]) (st' := []) ti_77_847 ow_77 iv_6_129 mc_77 ms_77 rfl rfl (by omega) (Nat.le_of_ble_eq_true rfl) (Nat.le_of_ble_eq_true rfl) (by omega) (by omega) hR.ob ?_
        refine sp_X5_isSame (by omega) hW hR hJ (fun M_847 o_847 => ?_)
        refine k_zreturn hK ti_77_850 rk_77 mc_77 ms_77 (by omega) (by omega) (by decide) ?_
        exact h _ _
  refine k_wid hK (c' := cc + 13000 + 2000 * 0) (q' := qq + 200000 + 20000 * 0) (by omega) (by omega) ?_
  exact loop (24 - 0 + 1) 0 _ _ _ _ _ _ _ _ _ _ _ _ _ _ _ _ _ _ _ _ _ _ _ _ _ (by omega) (by omega) hJ hR
