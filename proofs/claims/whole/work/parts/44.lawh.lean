/-! What the law's helpers answer. (written by wip/whole/lawh.py) -/
section AFT
variable {K : dp_K} {y pc n c q : Nat} {Q : dp_Q} {L : dp_L} {st : List Value} {M : dp_M} {o : Int64} {u : Out} {E1 E2 : Nat}
theorem aft_u1 (hk : u_k u = 0 ∨ (u_k u = 1 ∧ u_E u = E1)) (h0 : u_k u = 0 → dp_aft y Q K pc L st n c q (.inl (some (.int (u_r u)))) M o) (h1 : u_k u = 1 → dp_aft y Q K pc L st n c q (.inr E1) M o) : dp_aft y Q K pc L st n c q (cres u) M o := by
  unfold cres
  rcases hk with e | ⟨e, e2⟩
  · rw [if_pos e]
    exact h0 e
  · rw [if_neg (by omega), e2]
    exact h1 e
theorem aft_u2 (hk : u_k u = 0 ∨ (u_k u = 1 ∧ u_E u = E1) ∨ (u_k u = 2 ∧ u_E u = E2)) (h0 : u_k u = 0 → dp_aft y Q K pc L st n c q (.inl (some (.int (u_r u)))) M o) (h1 : u_k u = 1 → dp_aft y Q K pc L st n c q (.inr E1) M o) (h2 : u_k u = 2 → dp_aft y Q K pc L st n c q (.inr E2) M o) : dp_aft y Q K pc L st n c q (cres u) M o := by
  unfold cres
  rcases hk with e | ⟨e, e2⟩ | ⟨e, e2⟩
  · rw [if_pos e]
    exact h0 e
  · rw [if_neg (by omega), e2]
    exact h1 e
  · rw [if_neg (by omega), e2]
    exact h2 e
end AFT
theorem fck_setStem (s : GSt) (l : LSt) (x y : Int32) : u_k (fc_setStem s l x y) = 0 ∨ (u_k (fc_setStem s l x y) = 1 ∧ u_E (fc_setStem s l x y) = 0) := by
  unfold fc_setStem
  (repeat' split) <;> first | exact Or.inl rfl | exact Or.inr ⟨rfl, rfl⟩
theorem fck_write (s : GSt) (l : LSt) (x y : Int32) : u_k (fc_write s l x y) = 0 ∨ (u_k (fc_write s l x y) = 1 ∧ u_E (fc_write s l x y) = 0) ∨ (u_k (fc_write s l x y) = 2 ∧ u_E (fc_write s l x y) = 1) := by
  unfold fc_write
  (repeat' split) <;> first | exact Or.inl rfl | exact Or.inr (Or.inl ⟨rfl, rfl⟩) | exact Or.inr (Or.inr ⟨rfl, rfl⟩)
theorem fck_strike (s : GSt) (l : LSt) (x y : Int32) : u_k (fc_strike s l x y) = 0 ∨ (u_k (fc_strike s l x y) = 1 ∧ u_E (fc_strike s l x y) = 0) := by
  unfold fc_strike
  (repeat' split) <;> first | exact Or.inl rfl | exact Or.inr ⟨rfl, rfl⟩
theorem fck_want (s : GSt) (l : LSt) (x y : Int32) : u_k (fc_want s l x y) = 0 ∨ (u_k (fc_want s l x y) = 1 ∧ u_E (fc_want s l x y) = 0) ∨ (u_k (fc_want s l x y) = 2 ∧ u_E (fc_want s l x y) = 1) := by
  unfold fc_want
  (repeat' split) <;> first | exact Or.inl rfl | exact Or.inr (Or.inl ⟨rfl, rfl⟩) | exact Or.inr (Or.inr ⟨rfl, rfl⟩)
theorem fck_drop (s : GSt) (l : LSt) (x y : Int32) : u_k (fc_drop s l x y) = 0 ∨ (u_k (fc_drop s l x y) = 1 ∧ u_E (fc_drop s l x y) = 0) ∨ (u_k (fc_drop s l x y) = 2 ∧ u_E (fc_drop s l x y) = 1) := by
  unfold fc_drop
  (repeat' split) <;> first | exact Or.inl rfl | exact Or.inr (Or.inl ⟨rfl, rfl⟩) | exact Or.inr (Or.inr ⟨rfl, rfl⟩)
theorem fck_setBar (s : GSt) (l : LSt) (x y : Int32) : u_k (fc_setBar s l x y) = 0 ∨ (u_k (fc_setBar s l x y) = 1 ∧ u_E (fc_setBar s l x y) = 0) ∨ (u_k (fc_setBar s l x y) = 2 ∧ u_E (fc_setBar s l x y) = 2) := by
  unfold fc_setBar
  (repeat' split) <;> first | exact Or.inl rfl | exact Or.inr (Or.inl ⟨rfl, rfl⟩) | exact Or.inr (Or.inr ⟨rfl, rfl⟩)
theorem fck_pay (s : GSt) (l : LSt) (x y : Int32) : u_k (fc_pay s l x y) = 0 ∨ (u_k (fc_pay s l x y) = 1 ∧ u_E (fc_pay s l x y) = 0) ∨ (u_k (fc_pay s l x y) = 2 ∧ u_E (fc_pay s l x y) = 2) := by
  unfold fc_pay
  (repeat' split) <;> first | exact Or.inl rfl | exact Or.inr (Or.inl ⟨rfl, rfl⟩) | exact Or.inr (Or.inr ⟨rfl, rfl⟩)
theorem fck_told (s : GSt) (l : LSt) (x y : Int32) : u_k (fc_told s l x y) = 0 ∨ (u_k (fc_told s l x y) = 1 ∧ u_E (fc_told s l x y) = 0) := by
  unfold fc_told
  (repeat' split) <;> first | exact Or.inl rfl | exact Or.inr ⟨rfl, rfl⟩
theorem fck_word (s : GSt) (l : LSt) (x y : Int32) : u_k (fc_word s l x y) = 0 ∨ (u_k (fc_word s l x y) = 1 ∧ u_E (fc_word s l x y) = 0) := by
  unfold fc_word
  (repeat' split) <;> first | exact Or.inl rfl | exact Or.inr ⟨rfl, rfl⟩
theorem fck_about (s : GSt) (l : LSt) (x y : Int32) : u_k (fc_about s l x y) = 0 ∨ (u_k (fc_about s l x y) = 1 ∧ u_E (fc_about s l x y) = 0) := by
  unfold fc_about
  (repeat' split) <;> first | exact Or.inl rfl | exact Or.inr ⟨rfl, rfl⟩
theorem fck_stem (s : GSt) (l : LSt) (x y : Int32) : u_k (fc_stem s l x y) = 0 ∨ (u_k (fc_stem s l x y) = 1 ∧ u_E (fc_stem s l x y) = 0) := by
  unfold fc_stem
  (repeat' split) <;> first | exact Or.inl rfl | exact Or.inr ⟨rfl, rfl⟩
theorem fck_score (s : GSt) (l : LSt) (x y : Int32) : u_k (fc_score s l x y) = 0 ∨ (u_k (fc_score s l x y) = 1 ∧ u_E (fc_score s l x y) = 0) := by
  unfold fc_score
  (repeat' split) <;> first | exact Or.inl rfl | exact Or.inr ⟨rfl, rfl⟩
theorem fck_fit (s : GSt) (l : LSt) (x y : Int32) : u_k (fc_fit s l x y) = 0 ∨ (u_k (fc_fit s l x y) = 1 ∧ u_E (fc_fit s l x y) = 0) := by
  unfold fc_fit
  (repeat' split) <;> first | exact Or.inl rfl | exact Or.inr ⟨rfl, rfl⟩
theorem fck_alike (s : GSt) (l : LSt) (x y : Int32) : u_k (fc_alike s l x y) = 0 ∨ (u_k (fc_alike s l x y) = 1 ∧ u_E (fc_alike s l x y) = 0) := by
  unfold fc_alike
  (repeat' split) <;> first | exact Or.inl rfl | exact Or.inr ⟨rfl, rfl⟩
theorem fck_foresee (s : GSt) (l : LSt) (x y : Int32) : u_k (fc_foresee s l x y) = 0 ∨ (u_k (fc_foresee s l x y) = 1 ∧ u_E (fc_foresee s l x y) = 2) ∨ (u_k (fc_foresee s l x y) = 2 ∧ u_E (fc_foresee s l x y) = 0) := by
  unfold fc_foresee
  (repeat' split) <;> first | exact Or.inl rfl | exact Or.inr (Or.inl ⟨rfl, rfl⟩) | exact Or.inr (Or.inr ⟨rfl, rfl⟩)
theorem fck_client (s : GSt) (l : LSt) (x : Int32) : u_k (fc_client s l x) = 0 ∨ (u_k (fc_client s l x) = 1 ∧ u_E (fc_client s l x) = 2) ∨ (u_k (fc_client s l x) = 2 ∧ u_E (fc_client s l x) = 1) := by
  unfold fc_client
  (repeat' split) <;> first | exact Or.inl rfl | exact Or.inr (Or.inl ⟨rfl, rfl⟩) | exact Or.inr (Or.inr ⟨rfl, rfl⟩)
theorem fck_send (s : GSt) (l : LSt) (x : Int32) : u_k (fc_send s l x) = 0 ∨ (u_k (fc_send s l x) = 1 ∧ u_E (fc_send s l x) = 0) := by
  unfold fc_send
  (repeat' split) <;> first | exact Or.inl rfl | exact Or.inr ⟨rfl, rfl⟩
theorem fck_pass (s : GSt) (l : LSt) (x : Int32) : u_k (fc_pass s l x) = 0 ∨ (u_k (fc_pass s l x) = 1 ∧ u_E (fc_pass s l x) = 2) := by
  unfold fc_pass
  (repeat' split) <;> first | exact Or.inl rfl | exact Or.inr ⟨rfl, rfl⟩
theorem fck_count (s : GSt) (l : LSt) (x : Int32) : u_k (fc_count s l x) = 0 ∨ (u_k (fc_count s l x) = 1 ∧ u_E (fc_count s l x) = 0) := by
  unfold fc_count
  (repeat' split) <;> first | exact Or.inl rfl | exact Or.inr ⟨rfl, rfl⟩
theorem fck_rarity (s : GSt) (l : LSt) (x : Int32) : u_k (fc_rarity s l x) = 0 ∨ (u_k (fc_rarity s l x) = 1 ∧ u_E (fc_rarity s l x) = 0) := by
  unfold fc_rarity
  (repeat' split) <;> first | exact Or.inl rfl | exact Or.inr ⟨rfl, rfl⟩
theorem fck_advise (s : GSt) (l : LSt) (x : Int32) : u_k (fc_advise s l x) = 0 ∨ (u_k (fc_advise s l x) = 1 ∧ u_E (fc_advise s l x) = 0) := by
  unfold fc_advise
  (repeat' split) <;> first | exact Or.inl rfl | exact Or.inr ⟨rfl, rfl⟩
theorem fck_print (s : GSt) (l : LSt) : u_k (fc_print s l) = 0 ∨ (u_k (fc_print s l) = 1 ∧ u_E (fc_print s l) = 1) := by
  unfold fc_print
  (repeat' split) <;> first | exact Or.inl rfl | exact Or.inr ⟨rfl, rfl⟩
set_option maxRecDepth 100000 in
set_option maxHeartbeats 4000000 in
theorem sp_L_setStem {X : dp_X} {d n : Nat} {M : dp_M} {o : Int64} {Q : dp_Q} (h65 : 65 ≤ n) {s : GSt} {l : LSt} (x y : Int32) (hC : CG M s) (hN : CLn M l) (hV : WFL s l) (h : ∀ (M' : dp_M) (o' : Int64), CA M M' (fc_setStem s l x y) → (u_k (fc_setStem s l x y) = 0 → o' = (u_r (fc_setStem s l x y)).toInt64) → Q (.inl (some (.int (nI (u_k (fc_setStem s l x y)))))) M' o') : dp_run X (d + 7 + 1) 124 [.ref 0, .int x, .int y, .ref 26] n M o Q := by
  apply k_run
  intro K hK
  rw [mL_124]
  show K 0 [some (.ref 0), some (.int x), some (.int y), some (.ref 26), none] [] n 0 0 M o
  refine k_aload_n hK ti_124_0 rfl ?_
  refine k_iconst hK ti_124_1 kI_0 ?_
  refine k_aload_n hK ti_124_2 rfl ?_
  refine k_iload_n hK ti_124_3 rfl ?_
  refine k_iload_n hK ti_124_4 rfl ?_
  refine k_callV hK (as := [.int _, .int _]) (st' := [.int _, .ref 26]) ti_124_5 ow_124 iv_5_7 mc_124 ms_124 rfl rfl (by omega) (Nat.le_of_ble_eq_true rfl) (Nat.le_of_ble_eq_true rfl) (Nat.le_of_ble_eq_true rfl) (Nat.le_of_ble_eq_true rfl) (by omega) rfl ?_
  refine sp_X3_setStem (by omega) x y hC hN hV (fun M2 hA => ?_)
  refine aft_u1 (fck_setStem s l x y) (fun e0 => ?_) (fun e1 => ?_)
  · refine k_i2l hK ti_124_8 ?_
    refine k_lastore hK ti_124_9 (by omega) ?_
    refine k_goto hK ti_124_10 jt_10_7 ?_
    refine k_iconst hK ti_124_17 kI_0 ?_
    refine k_ireturn hK ti_124_18 rk_124 mc_124 ms_124 (Nat.le_of_ble_eq_true rfl) (Nat.le_of_ble_eq_true rfl) ?_
    have h := h M2 _ hA (fun _ => rfl)
    rw [e0] at h
    exact h
  · refine k_caught hh_124 (h := 13) rfl rfl ?_
    refine k_astore hK (L' := [none, none, none, none, some (.ref 9999)]) ti_124_13 rfl ?_
    refine k_iconst hK ti_124_15 kI_1 ?_
    refine k_ireturn hK ti_124_16 rk_124 mc_124 ms_124 (Nat.le_of_ble_eq_true rfl) (Nat.le_of_ble_eq_true rfl) ?_
    have h := h M2 o hA (fun z => by omega)
    rw [e1] at h
    exact h

set_option maxRecDepth 100000 in
set_option maxHeartbeats 4000000 in
theorem sp_L_write {X : dp_X} {d n : Nat} {M : dp_M} {o : Int64} {Q : dp_Q} (h65 : 65 ≤ n) {s : GSt} {l : LSt} (x y : Int32) (hC : CG M s) (hN : CLn M l) (hV : WFL s l) (h : ∀ (M' : dp_M) (o' : Int64), CA M M' (fc_write s l x y) → (u_k (fc_write s l x y) = 0 → o' = (u_r (fc_write s l x y)).toInt64) → Q (.inl (some (.int (nI (u_k (fc_write s l x y)))))) M' o') : dp_run X (d + 7 + 1) 126 [.ref 0, .int x, .int y, .ref 26] n M o Q := by
  apply k_run
  intro K hK
  rw [mL_126]
  show K 0 [some (.ref 0), some (.int x), some (.int y), some (.ref 26), none] [] n 0 0 M o
  refine k_aload_n hK ti_126_0 rfl ?_
  refine k_iconst hK ti_126_1 kI_0 ?_
  refine k_aload_n hK ti_126_2 rfl ?_
  refine k_iload_n hK ti_126_3 rfl ?_
  refine k_iload_n hK ti_126_4 rfl ?_
  refine k_callV hK (as := [.int _, .int _]) (st' := [.int _, .ref 26]) ti_126_5 ow_126 iv_5_21 mc_126 ms_126 rfl rfl (by omega) (Nat.le_of_ble_eq_true rfl) (Nat.le_of_ble_eq_true rfl) (Nat.le_of_ble_eq_true rfl) (Nat.le_of_ble_eq_true rfl) (by omega) rfl ?_
  refine sp_X3_write (by omega) x y hC hN hV (fun M2 hA => ?_)
  refine aft_u2 (fck_write s l x y) (fun e0 => ?_) (fun e1 => ?_) (fun e2 => ?_)
  · refine k_i2l hK ti_126_8 ?_
    refine k_lastore hK ti_126_9 (by omega) ?_
    refine k_goto hK ti_126_10 jt_10_11 ?_
    refine k_iconst hK ti_126_21 kI_0 ?_
    refine k_ireturn hK ti_126_22 rk_126 mc_126 ms_126 (Nat.le_of_ble_eq_true rfl) (Nat.le_of_ble_eq_true rfl) ?_
    have h := h M2 _ hA (fun _ => rfl)
    rw [e0] at h
    exact h
  · refine k_caught hh_126 (h := 13) rfl rfl ?_
    refine k_astore hK (L' := [none, none, none, none, some (.ref 9999)]) ti_126_13 rfl ?_
    refine k_iconst hK ti_126_15 kI_1 ?_
    refine k_ireturn hK ti_126_16 rk_126 mc_126 ms_126 (Nat.le_of_ble_eq_true rfl) (Nat.le_of_ble_eq_true rfl) ?_
    have h := h M2 o hA (fun z => by omega)
    rw [e1] at h
    exact h
  · refine k_caught hh_126 (h := 17) rfl rfl ?_
    refine k_astore hK (L' := [none, none, none, none, some (.ref 9999)]) ti_126_17 rfl ?_
    refine k_iconst hK ti_126_19 kI_2 ?_
    refine k_ireturn hK ti_126_20 rk_126 mc_126 ms_126 (Nat.le_of_ble_eq_true rfl) (Nat.le_of_ble_eq_true rfl) ?_
    have h := h M2 o hA (fun z => by omega)
    rw [e2] at h
    exact h

set_option maxRecDepth 100000 in
set_option maxHeartbeats 4000000 in
theorem sp_L_strike {X : dp_X} {d n : Nat} {M : dp_M} {o : Int64} {Q : dp_Q} (h65 : 65 ≤ n) {s : GSt} {l : LSt} (x y : Int32) (hC : CG M s) (hN : CLn M l) (hV : WFL s l) (h : ∀ (M' : dp_M) (o' : Int64), CA M M' (fc_strike s l x y) → (u_k (fc_strike s l x y) = 0 → o' = (u_r (fc_strike s l x y)).toInt64) → Q (.inl (some (.int (nI (u_k (fc_strike s l x y)))))) M' o') : dp_run X (d + 7 + 1) 127 [.ref 0, .int x, .int y, .ref 26] n M o Q := by
  apply k_run
  intro K hK
  rw [mL_127]
  show K 0 [some (.ref 0), some (.int x), some (.int y), some (.ref 26), none] [] n 0 0 M o
  refine k_aload_n hK ti_127_0 rfl ?_
  refine k_iconst hK ti_127_1 kI_0 ?_
  refine k_aload_n hK ti_127_2 rfl ?_
  refine k_iload_n hK ti_127_3 rfl ?_
  refine k_iload_n hK ti_127_4 rfl ?_
  refine k_callV hK (as := [.int _, .int _]) (st' := [.int _, .ref 26]) ti_127_5 ow_127 iv_5_24 mc_127 ms_127 rfl rfl (by omega) (Nat.le_of_ble_eq_true rfl) (Nat.le_of_ble_eq_true rfl) (Nat.le_of_ble_eq_true rfl) (Nat.le_of_ble_eq_true rfl) (by omega) rfl ?_
  refine sp_X3_strike (by omega) x y hC hN hV (fun M2 hA => ?_)
  refine aft_u1 (fck_strike s l x y) (fun e0 => ?_) (fun e1 => ?_)
  · refine k_i2l hK ti_127_8 ?_
    refine k_lastore hK ti_127_9 (by omega) ?_
    refine k_goto hK ti_127_10 jt_10_7 ?_
    refine k_iconst hK ti_127_17 kI_0 ?_
    refine k_ireturn hK ti_127_18 rk_127 mc_127 ms_127 (Nat.le_of_ble_eq_true rfl) (Nat.le_of_ble_eq_true rfl) ?_
    have h := h M2 _ hA (fun _ => rfl)
    rw [e0] at h
    exact h
  · refine k_caught hh_127 (h := 13) rfl rfl ?_
    refine k_astore hK (L' := [none, none, none, none, some (.ref 9999)]) ti_127_13 rfl ?_
    refine k_iconst hK ti_127_15 kI_1 ?_
    refine k_ireturn hK ti_127_16 rk_127 mc_127 ms_127 (Nat.le_of_ble_eq_true rfl) (Nat.le_of_ble_eq_true rfl) ?_
    have h := h M2 o hA (fun z => by omega)
    rw [e1] at h
    exact h

set_option maxRecDepth 100000 in
set_option maxHeartbeats 4000000 in
theorem sp_L_want {X : dp_X} {d n : Nat} {M : dp_M} {o : Int64} {Q : dp_Q} (h65 : 65 ≤ n) {s : GSt} {l : LSt} (x y : Int32) (hC : CG M s) (hN : CLn M l) (hV : WFL s l) (h : ∀ (M' : dp_M) (o' : Int64), CA M M' (fc_want s l x y) → (u_k (fc_want s l x y) = 0 → o' = (u_r (fc_want s l x y)).toInt64) → Q (.inl (some (.int (nI (u_k (fc_want s l x y)))))) M' o') : dp_run X (d + 7 + 1) 129 [.ref 0, .int x, .int y, .ref 26] n M o Q := by
  apply k_run
  intro K hK
  rw [mL_129]
  show K 0 [some (.ref 0), some (.int x), some (.int y), some (.ref 26), none] [] n 0 0 M o
  refine k_aload_n hK ti_129_0 rfl ?_
  refine k_iconst hK ti_129_1 kI_0 ?_
  refine k_aload_n hK ti_129_2 rfl ?_
  refine k_iload_n hK ti_129_3 rfl ?_
  refine k_iload_n hK ti_129_4 rfl ?_
  refine k_callV hK (as := [.int _, .int _]) (st' := [.int _, .ref 26]) ti_129_5 ow_129 iv_5_33 mc_129 ms_129 rfl rfl (by omega) (Nat.le_of_ble_eq_true rfl) (Nat.le_of_ble_eq_true rfl) (Nat.le_of_ble_eq_true rfl) (Nat.le_of_ble_eq_true rfl) (by omega) rfl ?_
  refine sp_X3_want (by omega) x y hC hN hV (fun M2 hA => ?_)
  refine aft_u2 (fck_want s l x y) (fun e0 => ?_) (fun e1 => ?_) (fun e2 => ?_)
  · refine k_i2l hK ti_129_8 ?_
    refine k_lastore hK ti_129_9 (by omega) ?_
    refine k_goto hK ti_129_10 jt_10_11 ?_
    refine k_iconst hK ti_129_21 kI_0 ?_
    refine k_ireturn hK ti_129_22 rk_129 mc_129 ms_129 (Nat.le_of_ble_eq_true rfl) (Nat.le_of_ble_eq_true rfl) ?_
    have h := h M2 _ hA (fun _ => rfl)
    rw [e0] at h
    exact h
  · refine k_caught hh_129 (h := 13) rfl rfl ?_
    refine k_astore hK (L' := [none, none, none, none, some (.ref 9999)]) ti_129_13 rfl ?_
    refine k_iconst hK ti_129_15 kI_1 ?_
    refine k_ireturn hK ti_129_16 rk_129 mc_129 ms_129 (Nat.le_of_ble_eq_true rfl) (Nat.le_of_ble_eq_true rfl) ?_
    have h := h M2 o hA (fun z => by omega)
    rw [e1] at h
    exact h
  · refine k_caught hh_129 (h := 17) rfl rfl ?_
    refine k_astore hK (L' := [none, none, none, none, some (.ref 9999)]) ti_129_17 rfl ?_
    refine k_iconst hK ti_129_19 kI_2 ?_
    refine k_ireturn hK ti_129_20 rk_129 mc_129 ms_129 (Nat.le_of_ble_eq_true rfl) (Nat.le_of_ble_eq_true rfl) ?_
    have h := h M2 o hA (fun z => by omega)
    rw [e2] at h
    exact h

set_option maxRecDepth 100000 in
set_option maxHeartbeats 4000000 in
theorem sp_L_drop {X : dp_X} {d n : Nat} {M : dp_M} {o : Int64} {Q : dp_Q} (h65 : 65 ≤ n) {s : GSt} {l : LSt} (x y : Int32) (hC : CG M s) (hN : CLn M l) (hV : WFL s l) (h : ∀ (M' : dp_M) (o' : Int64), CA M M' (fc_drop s l x y) → (u_k (fc_drop s l x y) = 0 → o' = (u_r (fc_drop s l x y)).toInt64) → Q (.inl (some (.int (nI (u_k (fc_drop s l x y)))))) M' o') : dp_run X (d + 7 + 1) 130 [.ref 0, .int x, .int y, .ref 26] n M o Q := by
  apply k_run
  intro K hK
  rw [mL_130]
  show K 0 [some (.ref 0), some (.int x), some (.int y), some (.ref 26), none] [] n 0 0 M o
  refine k_aload_n hK ti_130_0 rfl ?_
  refine k_iconst hK ti_130_1 kI_0 ?_
  refine k_aload_n hK ti_130_2 rfl ?_
  refine k_iload_n hK ti_130_3 rfl ?_
  refine k_iload_n hK ti_130_4 rfl ?_
  refine k_callV hK (as := [.int _, .int _]) (st' := [.int _, .ref 26]) ti_130_5 ow_130 iv_5_36 mc_130 ms_130 rfl rfl (by omega) (Nat.le_of_ble_eq_true rfl) (Nat.le_of_ble_eq_true rfl) (Nat.le_of_ble_eq_true rfl) (Nat.le_of_ble_eq_true rfl) (by omega) rfl ?_
  refine sp_X3_drop (by omega) x y hC hN hV (fun M2 hA => ?_)
  refine aft_u2 (fck_drop s l x y) (fun e0 => ?_) (fun e1 => ?_) (fun e2 => ?_)
  · refine k_i2l hK ti_130_8 ?_
    refine k_lastore hK ti_130_9 (by omega) ?_
    refine k_goto hK ti_130_10 jt_10_11 ?_
    refine k_iconst hK ti_130_21 kI_0 ?_
    refine k_ireturn hK ti_130_22 rk_130 mc_130 ms_130 (Nat.le_of_ble_eq_true rfl) (Nat.le_of_ble_eq_true rfl) ?_
    have h := h M2 _ hA (fun _ => rfl)
    rw [e0] at h
    exact h
  · refine k_caught hh_130 (h := 13) rfl rfl ?_
    refine k_astore hK (L' := [none, none, none, none, some (.ref 9999)]) ti_130_13 rfl ?_
    refine k_iconst hK ti_130_15 kI_1 ?_
    refine k_ireturn hK ti_130_16 rk_130 mc_130 ms_130 (Nat.le_of_ble_eq_true rfl) (Nat.le_of_ble_eq_true rfl) ?_
    have h := h M2 o hA (fun z => by omega)
    rw [e1] at h
    exact h
  · refine k_caught hh_130 (h := 17) rfl rfl ?_
    refine k_astore hK (L' := [none, none, none, none, some (.ref 9999)]) ti_130_17 rfl ?_
    refine k_iconst hK ti_130_19 kI_2 ?_
    refine k_ireturn hK ti_130_20 rk_130 mc_130 ms_130 (Nat.le_of_ble_eq_true rfl) (Nat.le_of_ble_eq_true rfl) ?_
    have h := h M2 o hA (fun z => by omega)
    rw [e2] at h
    exact h

set_option maxRecDepth 100000 in
set_option maxHeartbeats 4000000 in
theorem sp_L_setBar {X : dp_X} {d n : Nat} {M : dp_M} {o : Int64} {Q : dp_Q} (h65 : 65 ≤ n) {s : GSt} {l : LSt} (x y : Int32) (hC : CG M s) (hN : CLn M l) (hV : WFL s l) (h : ∀ (M' : dp_M) (o' : Int64), CA M M' (fc_setBar s l x y) → (u_k (fc_setBar s l x y) = 0 → o' = (u_r (fc_setBar s l x y)).toInt64) → Q (.inl (some (.int (nI (u_k (fc_setBar s l x y)))))) M' o') : dp_run X (d + 7 + 1) 131 [.ref 0, .int x, .int y, .ref 26] n M o Q := by
  apply k_run
  intro K hK
  rw [mL_131]
  show K 0 [some (.ref 0), some (.int x), some (.int y), some (.ref 26), none] [] n 0 0 M o
  refine k_aload_n hK ti_131_0 rfl ?_
  refine k_iconst hK ti_131_1 kI_0 ?_
  refine k_aload_n hK ti_131_2 rfl ?_
  refine k_iload_n hK ti_131_3 rfl ?_
  refine k_iload_n hK ti_131_4 rfl ?_
  refine k_callV hK (as := [.int _, .int _]) (st' := [.int _, .ref 26]) ti_131_5 ow_131 iv_5_39 mc_131 ms_131 rfl rfl (by omega) (Nat.le_of_ble_eq_true rfl) (Nat.le_of_ble_eq_true rfl) (Nat.le_of_ble_eq_true rfl) (Nat.le_of_ble_eq_true rfl) (by omega) rfl ?_
  refine sp_X3_setBar (by omega) x y hC hN hV (fun M2 hA => ?_)
  refine aft_u2 (fck_setBar s l x y) (fun e0 => ?_) (fun e1 => ?_) (fun e2 => ?_)
  · refine k_i2l hK ti_131_8 ?_
    refine k_lastore hK ti_131_9 (by omega) ?_
    refine k_goto hK ti_131_10 jt_10_11 ?_
    refine k_iconst hK ti_131_21 kI_0 ?_
    refine k_ireturn hK ti_131_22 rk_131 mc_131 ms_131 (Nat.le_of_ble_eq_true rfl) (Nat.le_of_ble_eq_true rfl) ?_
    have h := h M2 _ hA (fun _ => rfl)
    rw [e0] at h
    exact h
  · refine k_caught hh_131 (h := 13) rfl rfl ?_
    refine k_astore hK (L' := [none, none, none, none, some (.ref 9999)]) ti_131_13 rfl ?_
    refine k_iconst hK ti_131_15 kI_1 ?_
    refine k_ireturn hK ti_131_16 rk_131 mc_131 ms_131 (Nat.le_of_ble_eq_true rfl) (Nat.le_of_ble_eq_true rfl) ?_
    have h := h M2 o hA (fun z => by omega)
    rw [e1] at h
    exact h
  · refine k_caught hh_131 (h := 17) rfl rfl ?_
    refine k_astore hK (L' := [none, none, none, none, some (.ref 9999)]) ti_131_17 rfl ?_
    refine k_iconst hK ti_131_19 kI_2 ?_
    refine k_ireturn hK ti_131_20 rk_131 mc_131 ms_131 (Nat.le_of_ble_eq_true rfl) (Nat.le_of_ble_eq_true rfl) ?_
    have h := h M2 o hA (fun z => by omega)
    rw [e2] at h
    exact h

set_option maxRecDepth 100000 in
set_option maxHeartbeats 4000000 in
theorem sp_L_pay {X : dp_X} {d n : Nat} {M : dp_M} {o : Int64} {Q : dp_Q} (h65 : 65 ≤ n) {s : GSt} {l : LSt} (x y : Int32) (hC : CG M s) (hN : CLn M l) (hV : WFL s l) (h : ∀ (M' : dp_M) (o' : Int64), CA M M' (fc_pay s l x y) → (u_k (fc_pay s l x y) = 0 → o' = (u_r (fc_pay s l x y)).toInt64) → Q (.inl (some (.int (nI (u_k (fc_pay s l x y)))))) M' o') : dp_run X (d + 7 + 1) 132 [.ref 0, .int x, .int y, .ref 26] n M o Q := by
  apply k_run
  intro K hK
  rw [mL_132]
  show K 0 [some (.ref 0), some (.int x), some (.int y), some (.ref 26), none] [] n 0 0 M o
  refine k_aload_n hK ti_132_0 rfl ?_
  refine k_iconst hK ti_132_1 kI_0 ?_
  refine k_aload_n hK ti_132_2 rfl ?_
  refine k_iload_n hK ti_132_3 rfl ?_
  refine k_iload_n hK ti_132_4 rfl ?_
  refine k_callV hK (as := [.int _, .int _]) (st' := [.int _, .ref 26]) ti_132_5 ow_132 iv_5_42 mc_132 ms_132 rfl rfl (by omega) (Nat.le_of_ble_eq_true rfl) (Nat.le_of_ble_eq_true rfl) (Nat.le_of_ble_eq_true rfl) (Nat.le_of_ble_eq_true rfl) (by omega) rfl ?_
  refine sp_X3_pay (by omega) x y hC hN hV (fun M2 hA => ?_)
  refine aft_u2 (fck_pay s l x y) (fun e0 => ?_) (fun e1 => ?_) (fun e2 => ?_)
  · refine k_i2l hK ti_132_8 ?_
    refine k_lastore hK ti_132_9 (by omega) ?_
    refine k_goto hK ti_132_10 jt_10_11 ?_
    refine k_iconst hK ti_132_21 kI_0 ?_
    refine k_ireturn hK ti_132_22 rk_132 mc_132 ms_132 (Nat.le_of_ble_eq_true rfl) (Nat.le_of_ble_eq_true rfl) ?_
    have h := h M2 _ hA (fun _ => rfl)
    rw [e0] at h
    exact h
  · refine k_caught hh_132 (h := 13) rfl rfl ?_
    refine k_astore hK (L' := [none, none, none, none, some (.ref 9999)]) ti_132_13 rfl ?_
    refine k_iconst hK ti_132_15 kI_1 ?_
    refine k_ireturn hK ti_132_16 rk_132 mc_132 ms_132 (Nat.le_of_ble_eq_true rfl) (Nat.le_of_ble_eq_true rfl) ?_
    have h := h M2 o hA (fun z => by omega)
    rw [e1] at h
    exact h
  · refine k_caught hh_132 (h := 17) rfl rfl ?_
    refine k_astore hK (L' := [none, none, none, none, some (.ref 9999)]) ti_132_17 rfl ?_
    refine k_iconst hK ti_132_19 kI_2 ?_
    refine k_ireturn hK ti_132_20 rk_132 mc_132 ms_132 (Nat.le_of_ble_eq_true rfl) (Nat.le_of_ble_eq_true rfl) ?_
    have h := h M2 o hA (fun z => by omega)
    rw [e2] at h
    exact h

set_option maxRecDepth 100000 in
set_option maxHeartbeats 4000000 in
theorem sp_L_told {X : dp_X} {d n : Nat} {M : dp_M} {o : Int64} {Q : dp_Q} (h65 : 65 ≤ n) {s : GSt} {l : LSt} (x y : Int32) (hC : CG M s) (hN : CLn M l) (hV : WFL s l) (h : ∀ (M' : dp_M) (o' : Int64), CA M M' (fc_told s l x y) → (u_k (fc_told s l x y) = 0 → o' = (u_r (fc_told s l x y)).toInt64) → Q (.inl (some (.int (nI (u_k (fc_told s l x y)))))) M' o') : dp_run X (d + 7 + 1) 135 [.ref 0, .int x, .int y, .ref 26] n M o Q := by
  apply k_run
  intro K hK
  rw [mL_135]
  show K 0 [some (.ref 0), some (.int x), some (.int y), some (.ref 26), none] [] n 0 0 M o
  refine k_aload_n hK ti_135_0 rfl ?_
  refine k_iconst hK ti_135_1 kI_0 ?_
  refine k_aload_n hK ti_135_2 rfl ?_
  refine k_iload_n hK ti_135_3 rfl ?_
  refine k_iload_n hK ti_135_4 rfl ?_
  refine k_callV hK (as := [.int _, .int _]) (st' := [.int _, .ref 26]) ti_135_5 ow_135 iv_5_51 mc_135 ms_135 rfl rfl (by omega) (Nat.le_of_ble_eq_true rfl) (Nat.le_of_ble_eq_true rfl) (Nat.le_of_ble_eq_true rfl) (Nat.le_of_ble_eq_true rfl) (by omega) rfl ?_
  refine sp_X3_told (by omega) x y hC hN hV (fun M2 hA => ?_)
  refine aft_u1 (fck_told s l x y) (fun e0 => ?_) (fun e1 => ?_)
  · refine k_i2l hK ti_135_8 ?_
    refine k_lastore hK ti_135_9 (by omega) ?_
    refine k_goto hK ti_135_10 jt_10_7 ?_
    refine k_iconst hK ti_135_17 kI_0 ?_
    refine k_ireturn hK ti_135_18 rk_135 mc_135 ms_135 (Nat.le_of_ble_eq_true rfl) (Nat.le_of_ble_eq_true rfl) ?_
    have h := h M2 _ hA (fun _ => rfl)
    rw [e0] at h
    exact h
  · refine k_caught hh_135 (h := 13) rfl rfl ?_
    refine k_astore hK (L' := [none, none, none, none, some (.ref 9999)]) ti_135_13 rfl ?_
    refine k_iconst hK ti_135_15 kI_1 ?_
    refine k_ireturn hK ti_135_16 rk_135 mc_135 ms_135 (Nat.le_of_ble_eq_true rfl) (Nat.le_of_ble_eq_true rfl) ?_
    have h := h M2 o hA (fun z => by omega)
    rw [e1] at h
    exact h

set_option maxRecDepth 100000 in
set_option maxHeartbeats 4000000 in
theorem sp_L_word {X : dp_X} {d n : Nat} {M : dp_M} {o : Int64} {Q : dp_Q} (h65 : 65 ≤ n) {s : GSt} {l : LSt} (x y : Int32) (hC : CG M s) (hN : CLn M l) (hV : WFL s l) (h : ∀ (M' : dp_M) (o' : Int64), CA M M' (fc_word s l x y) → (u_k (fc_word s l x y) = 0 → o' = (u_r (fc_word s l x y)).toInt64) → Q (.inl (some (.int (nI (u_k (fc_word s l x y)))))) M' o') : dp_run X (d + 7 + 1) 136 [.ref 0, .int x, .int y, .ref 26] n M o Q := by
  apply k_run
  intro K hK
  rw [mL_136]
  show K 0 [some (.ref 0), some (.int x), some (.int y), some (.ref 26), none] [] n 0 0 M o
  refine k_aload_n hK ti_136_0 rfl ?_
  refine k_iconst hK ti_136_1 kI_0 ?_
  refine k_aload_n hK ti_136_2 rfl ?_
  refine k_iload_n hK ti_136_3 rfl ?_
  refine k_iload_n hK ti_136_4 rfl ?_
  refine k_callV hK (as := [.int _, .int _]) (st' := [.int _, .ref 26]) ti_136_5 ow_136 iv_5_54 mc_136 ms_136 rfl rfl (by omega) (Nat.le_of_ble_eq_true rfl) (Nat.le_of_ble_eq_true rfl) (Nat.le_of_ble_eq_true rfl) (Nat.le_of_ble_eq_true rfl) (by omega) rfl ?_
  refine sp_X3_word (by omega) x y hC hN hV (fun M2 hA => ?_)
  refine aft_u1 (fck_word s l x y) (fun e0 => ?_) (fun e1 => ?_)
  · refine k_i2l hK ti_136_8 ?_
    refine k_lastore hK ti_136_9 (by omega) ?_
    refine k_goto hK ti_136_10 jt_10_7 ?_
    refine k_iconst hK ti_136_17 kI_0 ?_
    refine k_ireturn hK ti_136_18 rk_136 mc_136 ms_136 (Nat.le_of_ble_eq_true rfl) (Nat.le_of_ble_eq_true rfl) ?_
    have h := h M2 _ hA (fun _ => rfl)
    rw [e0] at h
    exact h
  · refine k_caught hh_136 (h := 13) rfl rfl ?_
    refine k_astore hK (L' := [none, none, none, none, some (.ref 9999)]) ti_136_13 rfl ?_
    refine k_iconst hK ti_136_15 kI_1 ?_
    refine k_ireturn hK ti_136_16 rk_136 mc_136 ms_136 (Nat.le_of_ble_eq_true rfl) (Nat.le_of_ble_eq_true rfl) ?_
    have h := h M2 o hA (fun z => by omega)
    rw [e1] at h
    exact h

set_option maxRecDepth 100000 in
set_option maxHeartbeats 4000000 in
theorem sp_L_about {X : dp_X} {d n : Nat} {M : dp_M} {o : Int64} {Q : dp_Q} (h65 : 65 ≤ n) {s : GSt} {l : LSt} (x y : Int32) (hC : CG M s) (hN : CLn M l) (hV : WFL s l) (h : ∀ (M' : dp_M) (o' : Int64), CA M M' (fc_about s l x y) → (u_k (fc_about s l x y) = 0 → o' = (u_r (fc_about s l x y)).toInt64) → Q (.inl (some (.int (nI (u_k (fc_about s l x y)))))) M' o') : dp_run X (d + 7 + 1) 137 [.ref 0, .int x, .int y, .ref 26] n M o Q := by
  apply k_run
  intro K hK
  rw [mL_137]
  show K 0 [some (.ref 0), some (.int x), some (.int y), some (.ref 26), none] [] n 0 0 M o
  refine k_aload_n hK ti_137_0 rfl ?_
  refine k_iconst hK ti_137_1 kI_0 ?_
  refine k_aload_n hK ti_137_2 rfl ?_
  refine k_iload_n hK ti_137_3 rfl ?_
  refine k_iload_n hK ti_137_4 rfl ?_
  refine k_callV hK (as := [.int _, .int _]) (st' := [.int _, .ref 26]) ti_137_5 ow_137 iv_5_57 mc_137 ms_137 rfl rfl (by omega) (Nat.le_of_ble_eq_true rfl) (Nat.le_of_ble_eq_true rfl) (Nat.le_of_ble_eq_true rfl) (Nat.le_of_ble_eq_true rfl) (by omega) rfl ?_
  refine sp_X3_about (by omega) x y hC hN hV (fun M2 hA => ?_)
  refine aft_u1 (fck_about s l x y) (fun e0 => ?_) (fun e1 => ?_)
  · refine k_i2l hK ti_137_8 ?_
    refine k_lastore hK ti_137_9 (by omega) ?_
    refine k_goto hK ti_137_10 jt_10_7 ?_
    refine k_iconst hK ti_137_17 kI_0 ?_
    refine k_ireturn hK ti_137_18 rk_137 mc_137 ms_137 (Nat.le_of_ble_eq_true rfl) (Nat.le_of_ble_eq_true rfl) ?_
    have h := h M2 _ hA (fun _ => rfl)
    rw [e0] at h
    exact h
  · refine k_caught hh_137 (h := 13) rfl rfl ?_
    refine k_astore hK (L' := [none, none, none, none, some (.ref 9999)]) ti_137_13 rfl ?_
    refine k_iconst hK ti_137_15 kI_1 ?_
    refine k_ireturn hK ti_137_16 rk_137 mc_137 ms_137 (Nat.le_of_ble_eq_true rfl) (Nat.le_of_ble_eq_true rfl) ?_
    have h := h M2 o hA (fun z => by omega)
    rw [e1] at h
    exact h

set_option maxRecDepth 100000 in
set_option maxHeartbeats 4000000 in
theorem sp_L_stem {X : dp_X} {d n : Nat} {M : dp_M} {o : Int64} {Q : dp_Q} (h65 : 65 ≤ n) {s : GSt} {l : LSt} (x y : Int32) (hC : CG M s) (hN : CLn M l) (hV : WFL s l) (h : ∀ (M' : dp_M) (o' : Int64), CA M M' (fc_stem s l x y) → (u_k (fc_stem s l x y) = 0 → o' = (u_r (fc_stem s l x y)).toInt64) → Q (.inl (some (.int (nI (u_k (fc_stem s l x y)))))) M' o') : dp_run X (d + 7 + 1) 138 [.ref 0, .int x, .int y, .ref 26] n M o Q := by
  apply k_run
  intro K hK
  rw [mL_138]
  show K 0 [some (.ref 0), some (.int x), some (.int y), some (.ref 26), none] [] n 0 0 M o
  refine k_aload_n hK ti_138_0 rfl ?_
  refine k_iconst hK ti_138_1 kI_0 ?_
  refine k_aload_n hK ti_138_2 rfl ?_
  refine k_iload_n hK ti_138_3 rfl ?_
  refine k_iload_n hK ti_138_4 rfl ?_
  refine k_callV hK (as := [.int _, .int _]) (st' := [.int _, .ref 26]) ti_138_5 ow_138 iv_5_60 mc_138 ms_138 rfl rfl (by omega) (Nat.le_of_ble_eq_true rfl) (Nat.le_of_ble_eq_true rfl) (Nat.le_of_ble_eq_true rfl) (Nat.le_of_ble_eq_true rfl) (by omega) rfl ?_
  refine sp_X3_stem (by omega) x y hC hN hV (fun M2 hA => ?_)
  refine aft_u1 (fck_stem s l x y) (fun e0 => ?_) (fun e1 => ?_)
  · refine k_i2l hK ti_138_8 ?_
    refine k_lastore hK ti_138_9 (by omega) ?_
    refine k_goto hK ti_138_10 jt_10_7 ?_
    refine k_iconst hK ti_138_17 kI_0 ?_
    refine k_ireturn hK ti_138_18 rk_138 mc_138 ms_138 (Nat.le_of_ble_eq_true rfl) (Nat.le_of_ble_eq_true rfl) ?_
    have h := h M2 _ hA (fun _ => rfl)
    rw [e0] at h
    exact h
  · refine k_caught hh_138 (h := 13) rfl rfl ?_
    refine k_astore hK (L' := [none, none, none, none, some (.ref 9999)]) ti_138_13 rfl ?_
    refine k_iconst hK ti_138_15 kI_1 ?_
    refine k_ireturn hK ti_138_16 rk_138 mc_138 ms_138 (Nat.le_of_ble_eq_true rfl) (Nat.le_of_ble_eq_true rfl) ?_
    have h := h M2 o hA (fun z => by omega)
    rw [e1] at h
    exact h

set_option maxRecDepth 100000 in
set_option maxHeartbeats 4000000 in
theorem sp_L_score {X : dp_X} {d n : Nat} {M : dp_M} {o : Int64} {Q : dp_Q} (h65 : 65 ≤ n) {s : GSt} {l : LSt} (x y : Int32) (hC : CG M s) (hN : CLn M l) (hV : WFL s l) (h : ∀ (M' : dp_M) (o' : Int64), CA M M' (fc_score s l x y) → (u_k (fc_score s l x y) = 0 → o' = (u_r (fc_score s l x y)).toInt64) → Q (.inl (some (.int (nI (u_k (fc_score s l x y)))))) M' o') : dp_run X (d + 7 + 1) 141 [.ref 0, .int x, .int y, .ref 26] n M o Q := by
  apply k_run
  intro K hK
  rw [mL_141]
  show K 0 [some (.ref 0), some (.int x), some (.int y), some (.ref 26), none] [] n 0 0 M o
  refine k_aload_n hK ti_141_0 rfl ?_
  refine k_iconst hK ti_141_1 kI_0 ?_
  refine k_aload_n hK ti_141_2 rfl ?_
  refine k_iload_n hK ti_141_3 rfl ?_
  refine k_iload_n hK ti_141_4 rfl ?_
  refine k_callV hK (as := [.int _, .int _]) (st' := [.int _, .ref 26]) ti_141_5 ow_141 iv_5_69 mc_141 ms_141 rfl rfl (by omega) (Nat.le_of_ble_eq_true rfl) (Nat.le_of_ble_eq_true rfl) (Nat.le_of_ble_eq_true rfl) (Nat.le_of_ble_eq_true rfl) (by omega) rfl ?_
  refine sp_X3_score (by omega) x y hC hN hV (fun M2 hA => ?_)
  refine aft_u1 (fck_score s l x y) (fun e0 => ?_) (fun e1 => ?_)
  · refine k_i2l hK ti_141_8 ?_
    refine k_lastore hK ti_141_9 (by omega) ?_
    refine k_goto hK ti_141_10 jt_10_7 ?_
    refine k_iconst hK ti_141_17 kI_0 ?_
    refine k_ireturn hK ti_141_18 rk_141 mc_141 ms_141 (Nat.le_of_ble_eq_true rfl) (Nat.le_of_ble_eq_true rfl) ?_
    have h := h M2 _ hA (fun _ => rfl)
    rw [e0] at h
    exact h
  · refine k_caught hh_141 (h := 13) rfl rfl ?_
    refine k_astore hK (L' := [none, none, none, none, some (.ref 9999)]) ti_141_13 rfl ?_
    refine k_iconst hK ti_141_15 kI_1 ?_
    refine k_ireturn hK ti_141_16 rk_141 mc_141 ms_141 (Nat.le_of_ble_eq_true rfl) (Nat.le_of_ble_eq_true rfl) ?_
    have h := h M2 o hA (fun z => by omega)
    rw [e1] at h
    exact h

set_option maxRecDepth 100000 in
set_option maxHeartbeats 4000000 in
theorem sp_L_fit {X : dp_X} {d n : Nat} {M : dp_M} {o : Int64} {Q : dp_Q} (h65 : 65 ≤ n) {s : GSt} {l : LSt} (x y : Int32) (hC : CG M s) (hN : CLn M l) (hV : WFL s l) (h : ∀ (M' : dp_M) (o' : Int64), CA M M' (fc_fit s l x y) → (u_k (fc_fit s l x y) = 0 → o' = (u_r (fc_fit s l x y)).toInt64) → Q (.inl (some (.int (nI (u_k (fc_fit s l x y)))))) M' o') : dp_run X (d + 7 + 1) 142 [.ref 0, .int x, .int y, .ref 26] n M o Q := by
  apply k_run
  intro K hK
  rw [mL_142]
  show K 0 [some (.ref 0), some (.int x), some (.int y), some (.ref 26), none] [] n 0 0 M o
  refine k_aload_n hK ti_142_0 rfl ?_
  refine k_iconst hK ti_142_1 kI_0 ?_
  refine k_aload_n hK ti_142_2 rfl ?_
  refine k_iload_n hK ti_142_3 rfl ?_
  refine k_iload_n hK ti_142_4 rfl ?_
  refine k_callV hK (as := [.int _, .int _]) (st' := [.int _, .ref 26]) ti_142_5 ow_142 iv_5_72 mc_142 ms_142 rfl rfl (by omega) (Nat.le_of_ble_eq_true rfl) (Nat.le_of_ble_eq_true rfl) (Nat.le_of_ble_eq_true rfl) (Nat.le_of_ble_eq_true rfl) (by omega) rfl ?_
  refine sp_X3_fit (by omega) x y hC hN hV (fun M2 hA => ?_)
  refine aft_u1 (fck_fit s l x y) (fun e0 => ?_) (fun e1 => ?_)
  · refine k_i2l hK ti_142_8 ?_
    refine k_lastore hK ti_142_9 (by omega) ?_
    refine k_goto hK ti_142_10 jt_10_7 ?_
    refine k_iconst hK ti_142_17 kI_0 ?_
    refine k_ireturn hK ti_142_18 rk_142 mc_142 ms_142 (Nat.le_of_ble_eq_true rfl) (Nat.le_of_ble_eq_true rfl) ?_
    have h := h M2 _ hA (fun _ => rfl)
    rw [e0] at h
    exact h
  · refine k_caught hh_142 (h := 13) rfl rfl ?_
    refine k_astore hK (L' := [none, none, none, none, some (.ref 9999)]) ti_142_13 rfl ?_
    refine k_iconst hK ti_142_15 kI_1 ?_
    refine k_ireturn hK ti_142_16 rk_142 mc_142 ms_142 (Nat.le_of_ble_eq_true rfl) (Nat.le_of_ble_eq_true rfl) ?_
    have h := h M2 o hA (fun z => by omega)
    rw [e1] at h
    exact h

set_option maxRecDepth 100000 in
set_option maxHeartbeats 4000000 in
theorem sp_L_alike {X : dp_X} {d n : Nat} {M : dp_M} {o : Int64} {Q : dp_Q} (h65 : 65 ≤ n) {s : GSt} {l : LSt} (x y : Int32) (hC : CG M s) (hN : CLn M l) (hV : WFL s l) (h : ∀ (M' : dp_M) (o' : Int64), CA M M' (fc_alike s l x y) → (u_k (fc_alike s l x y) = 0 → o' = (u_r (fc_alike s l x y)).toInt64) → Q (.inl (some (.int (nI (u_k (fc_alike s l x y)))))) M' o') : dp_run X (d + 7 + 1) 143 [.ref 0, .int x, .int y, .ref 26] n M o Q := by
  apply k_run
  intro K hK
  rw [mL_143]
  show K 0 [some (.ref 0), some (.int x), some (.int y), some (.ref 26), none] [] n 0 0 M o
  refine k_aload_n hK ti_143_0 rfl ?_
  refine k_iconst hK ti_143_1 kI_0 ?_
  refine k_aload_n hK ti_143_2 rfl ?_
  refine k_iload_n hK ti_143_3 rfl ?_
  refine k_iload_n hK ti_143_4 rfl ?_
  refine k_callV hK (as := [.int _, .int _]) (st' := [.int _, .ref 26]) ti_143_5 ow_143 iv_5_75 mc_143 ms_143 rfl rfl (by omega) (Nat.le_of_ble_eq_true rfl) (Nat.le_of_ble_eq_true rfl) (Nat.le_of_ble_eq_true rfl) (Nat.le_of_ble_eq_true rfl) (by omega) rfl ?_
  refine sp_X3_alike (by omega) x y hC hN hV (fun M2 hA => ?_)
  refine aft_u1 (fck_alike s l x y) (fun e0 => ?_) (fun e1 => ?_)
  · refine k_i2l hK ti_143_8 ?_
    refine k_lastore hK ti_143_9 (by omega) ?_
    refine k_goto hK ti_143_10 jt_10_7 ?_
    refine k_iconst hK ti_143_17 kI_0 ?_
    refine k_ireturn hK ti_143_18 rk_143 mc_143 ms_143 (Nat.le_of_ble_eq_true rfl) (Nat.le_of_ble_eq_true rfl) ?_
    have h := h M2 _ hA (fun _ => rfl)
    rw [e0] at h
    exact h
  · refine k_caught hh_143 (h := 13) rfl rfl ?_
    refine k_astore hK (L' := [none, none, none, none, some (.ref 9999)]) ti_143_13 rfl ?_
    refine k_iconst hK ti_143_15 kI_1 ?_
    refine k_ireturn hK ti_143_16 rk_143 mc_143 ms_143 (Nat.le_of_ble_eq_true rfl) (Nat.le_of_ble_eq_true rfl) ?_
    have h := h M2 o hA (fun z => by omega)
    rw [e1] at h
    exact h

set_option maxRecDepth 100000 in
set_option maxHeartbeats 4000000 in
theorem sp_L_foresee {X : dp_X} {d n : Nat} {M : dp_M} {o : Int64} {Q : dp_Q} (h65 : 65 ≤ n) {s : GSt} {l : LSt} (x y : Int32) (hC : CG M s) (hN : CLn M l) (hV : WFL s l) (h : ∀ (M' : dp_M) (o' : Int64), CA M M' (fc_foresee s l x y) → (u_k (fc_foresee s l x y) = 0 → o' = (u_r (fc_foresee s l x y)).toInt64) → Q (.inl (some (.int (nI (u_k (fc_foresee s l x y)))))) M' o') : dp_run X (d + 7 + 1) 145 [.ref 0, .int x, .int y, .ref 26] n M o Q := by
  apply k_run
  intro K hK
  rw [mL_145]
  show K 0 [some (.ref 0), some (.int x), some (.int y), some (.ref 26), none] [] n 0 0 M o
  refine k_aload_n hK ti_145_0 rfl ?_
  refine k_iconst hK ti_145_1 kI_0 ?_
  refine k_aload_n hK ti_145_2 rfl ?_
  refine k_iload_n hK ti_145_3 rfl ?_
  refine k_iload_n hK ti_145_4 rfl ?_
  refine k_callV hK (as := [.int _, .int _]) (st' := [.int _, .ref 26]) ti_145_5 ow_145 iv_5_81 mc_145 ms_145 rfl rfl (by omega) (Nat.le_of_ble_eq_true rfl) (Nat.le_of_ble_eq_true rfl) (Nat.le_of_ble_eq_true rfl) (Nat.le_of_ble_eq_true rfl) (by omega) rfl ?_
  refine sp_X3_foresee (by omega) x y hC hN hV (fun M2 hA => ?_)
  refine aft_u2 (fck_foresee s l x y) (fun e0 => ?_) (fun e1 => ?_) (fun e2 => ?_)
  · refine k_i2l hK ti_145_8 ?_
    refine k_lastore hK ti_145_9 (by omega) ?_
    refine k_goto hK ti_145_10 jt_10_11 ?_
    refine k_iconst hK ti_145_21 kI_0 ?_
    refine k_ireturn hK ti_145_22 rk_145 mc_145 ms_145 (Nat.le_of_ble_eq_true rfl) (Nat.le_of_ble_eq_true rfl) ?_
    have h := h M2 _ hA (fun _ => rfl)
    rw [e0] at h
    exact h
  · refine k_caught hh_145 (h := 13) rfl rfl ?_
    refine k_astore hK (L' := [none, none, none, none, some (.ref 9999)]) ti_145_13 rfl ?_
    refine k_iconst hK ti_145_15 kI_1 ?_
    refine k_ireturn hK ti_145_16 rk_145 mc_145 ms_145 (Nat.le_of_ble_eq_true rfl) (Nat.le_of_ble_eq_true rfl) ?_
    have h := h M2 o hA (fun z => by omega)
    rw [e1] at h
    exact h
  · refine k_caught hh_145 (h := 17) rfl rfl ?_
    refine k_astore hK (L' := [none, none, none, none, some (.ref 9999)]) ti_145_17 rfl ?_
    refine k_iconst hK ti_145_19 kI_2 ?_
    refine k_ireturn hK ti_145_20 rk_145 mc_145 ms_145 (Nat.le_of_ble_eq_true rfl) (Nat.le_of_ble_eq_true rfl) ?_
    have h := h M2 o hA (fun z => by omega)
    rw [e2] at h
    exact h

set_option maxRecDepth 100000 in
set_option maxHeartbeats 4000000 in
theorem sp_L_client {X : dp_X} {d n : Nat} {M : dp_M} {o : Int64} {Q : dp_Q} (h65 : 65 ≤ n) {s : GSt} {l : LSt} (x : Int32) (hC : CG M s) (hN : CLn M l) (hV : WFL s l) (h : ∀ (M' : dp_M) (o' : Int64), CA M M' (fc_client s l x) → (u_k (fc_client s l x) = 0 → o' = (u_r (fc_client s l x)).toInt64) → Q (.inl (some (.int (nI (u_k (fc_client s l x)))))) M' o') : dp_run X (d + 6 + 1) 128 [.ref 0, .int x, .ref 26] n M o Q := by
  apply k_run
  intro K hK
  rw [mL_128]
  show K 0 [some (.ref 0), some (.int x), some (.ref 26), none] [] n 0 0 M o
  refine k_aload_n hK ti_128_0 rfl ?_
  refine k_iconst hK ti_128_1 kI_0 ?_
  refine k_aload_n hK ti_128_2 rfl ?_
  refine k_iload_n hK ti_128_3 rfl ?_
  refine k_callV hK (as := [.int _]) (st' := [.int _, .ref 26]) ti_128_4 ow_128 iv_5_27 mc_128 ms_128 rfl rfl (by omega) (Nat.le_of_ble_eq_true rfl) (Nat.le_of_ble_eq_true rfl) (Nat.le_of_ble_eq_true rfl) (Nat.le_of_ble_eq_true rfl) (by omega) rfl ?_
  refine sp_X3_client (by omega) x hC hN hV (fun M2 hA => ?_)
  refine aft_u2 (fck_client s l x) (fun e0 => ?_) (fun e1 => ?_) (fun e2 => ?_)
  · refine k_i2l hK ti_128_7 ?_
    refine k_lastore hK ti_128_8 (by omega) ?_
    refine k_goto hK ti_128_9 jt_9_9 ?_
    refine k_iconst hK ti_128_18 kI_0 ?_
    refine k_ireturn hK ti_128_19 rk_128 mc_128 ms_128 (Nat.le_of_ble_eq_true rfl) (Nat.le_of_ble_eq_true rfl) ?_
    have h := h M2 _ hA (fun _ => rfl)
    rw [e0] at h
    exact h
  · refine k_caught hh_128 (h := 12) rfl rfl ?_
    refine k_astore_n hK (L' := [none, none, none, some (.ref 9999)]) ti_128_12 rfl ?_
    refine k_iconst hK ti_128_13 kI_1 ?_
    refine k_ireturn hK ti_128_14 rk_128 mc_128 ms_128 (Nat.le_of_ble_eq_true rfl) (Nat.le_of_ble_eq_true rfl) ?_
    have h := h M2 o hA (fun z => by omega)
    rw [e1] at h
    exact h
  · refine k_caught hh_128 (h := 15) rfl rfl ?_
    refine k_astore_n hK (L' := [none, none, none, some (.ref 9999)]) ti_128_15 rfl ?_
    refine k_iconst hK ti_128_16 kI_2 ?_
    refine k_ireturn hK ti_128_17 rk_128 mc_128 ms_128 (Nat.le_of_ble_eq_true rfl) (Nat.le_of_ble_eq_true rfl) ?_
    have h := h M2 o hA (fun z => by omega)
    rw [e2] at h
    exact h

set_option maxRecDepth 100000 in
set_option maxHeartbeats 4000000 in
theorem sp_L_send {X : dp_X} {d n : Nat} {M : dp_M} {o : Int64} {Q : dp_Q} (h65 : 65 ≤ n) {s : GSt} {l : LSt} (x : Int32) (hC : CG M s) (hN : CLn M l) (hV : WFL s l) (h : ∀ (M' : dp_M) (o' : Int64), CA M M' (fc_send s l x) → (u_k (fc_send s l x) = 0 → o' = (u_r (fc_send s l x)).toInt64) → Q (.inl (some (.int (nI (u_k (fc_send s l x)))))) M' o') : dp_run X (d + 7 + 1) 133 [.ref 0, .int x, .ref 26] n M o Q := by
  apply k_run
  intro K hK
  rw [mL_133]
  show K 0 [some (.ref 0), some (.int x), some (.ref 26), none] [] n 0 0 M o
  refine k_aload_n hK ti_133_0 rfl ?_
  refine k_iconst hK ti_133_1 kI_0 ?_
  refine k_aload_n hK ti_133_2 rfl ?_
  refine k_iload_n hK ti_133_3 rfl ?_
  refine k_callV hK (as := [.int _]) (st' := [.int _, .ref 26]) ti_133_4 ow_133 iv_5_45 mc_133 ms_133 rfl rfl (by omega) (Nat.le_of_ble_eq_true rfl) (Nat.le_of_ble_eq_true rfl) (Nat.le_of_ble_eq_true rfl) (Nat.le_of_ble_eq_true rfl) (by omega) rfl ?_
  refine sp_X3_send (by omega) x hC hN hV (fun M2 hA => ?_)
  refine aft_u1 (fck_send s l x) (fun e0 => ?_) (fun e1 => ?_)
  · refine k_i2l hK ti_133_7 ?_
    refine k_lastore hK ti_133_8 (by omega) ?_
    refine k_goto hK ti_133_9 jt_9_6 ?_
    refine k_iconst hK ti_133_15 kI_0 ?_
    refine k_ireturn hK ti_133_16 rk_133 mc_133 ms_133 (Nat.le_of_ble_eq_true rfl) (Nat.le_of_ble_eq_true rfl) ?_
    have h := h M2 _ hA (fun _ => rfl)
    rw [e0] at h
    exact h
  · refine k_caught hh_133 (h := 12) rfl rfl ?_
    refine k_astore_n hK (L' := [none, none, none, some (.ref 9999)]) ti_133_12 rfl ?_
    refine k_iconst hK ti_133_13 kI_1 ?_
    refine k_ireturn hK ti_133_14 rk_133 mc_133 ms_133 (Nat.le_of_ble_eq_true rfl) (Nat.le_of_ble_eq_true rfl) ?_
    have h := h M2 o hA (fun z => by omega)
    rw [e1] at h
    exact h

set_option maxRecDepth 100000 in
set_option maxHeartbeats 4000000 in
theorem sp_L_pass {X : dp_X} {d n : Nat} {M : dp_M} {o : Int64} {Q : dp_Q} (h65 : 65 ≤ n) {s : GSt} {l : LSt} (x : Int32) (hC : CG M s) (hN : CLn M l) (hV : WFL s l) (h : ∀ (M' : dp_M) (o' : Int64), CA M M' (fc_pass s l x) → (u_k (fc_pass s l x) = 0 → o' = (u_r (fc_pass s l x)).toInt64) → Q (.inl (some (.int (nI (u_k (fc_pass s l x)))))) M' o') : dp_run X (d + 7 + 1) 134 [.ref 0, .int x, .ref 26] n M o Q := by
  apply k_run
  intro K hK
  rw [mL_134]
  show K 0 [some (.ref 0), some (.int x), some (.ref 26), none] [] n 0 0 M o
  refine k_aload_n hK ti_134_0 rfl ?_
  refine k_iconst hK ti_134_1 kI_0 ?_
  refine k_aload_n hK ti_134_2 rfl ?_
  refine k_iload_n hK ti_134_3 rfl ?_
  refine k_callV hK (as := [.int _]) (st' := [.int _, .ref 26]) ti_134_4 ow_134 iv_5_48 mc_134 ms_134 rfl rfl (by omega) (Nat.le_of_ble_eq_true rfl) (Nat.le_of_ble_eq_true rfl) (Nat.le_of_ble_eq_true rfl) (Nat.le_of_ble_eq_true rfl) (by omega) rfl ?_
  refine sp_X3_pass (by omega) x hC hN hV (fun M2 hA => ?_)
  refine aft_u1 (fck_pass s l x) (fun e0 => ?_) (fun e1 => ?_)
  · refine k_i2l hK ti_134_7 ?_
    refine k_lastore hK ti_134_8 (by omega) ?_
    refine k_goto hK ti_134_9 jt_9_6 ?_
    refine k_iconst hK ti_134_15 kI_0 ?_
    refine k_ireturn hK ti_134_16 rk_134 mc_134 ms_134 (Nat.le_of_ble_eq_true rfl) (Nat.le_of_ble_eq_true rfl) ?_
    have h := h M2 _ hA (fun _ => rfl)
    rw [e0] at h
    exact h
  · refine k_caught hh_134 (h := 12) rfl rfl ?_
    refine k_astore_n hK (L' := [none, none, none, some (.ref 9999)]) ti_134_12 rfl ?_
    refine k_iconst hK ti_134_13 kI_1 ?_
    refine k_ireturn hK ti_134_14 rk_134 mc_134 ms_134 (Nat.le_of_ble_eq_true rfl) (Nat.le_of_ble_eq_true rfl) ?_
    have h := h M2 o hA (fun z => by omega)
    rw [e1] at h
    exact h

set_option maxRecDepth 100000 in
set_option maxHeartbeats 4000000 in
theorem sp_L_count {X : dp_X} {d n : Nat} {M : dp_M} {o : Int64} {Q : dp_Q} (h65 : 65 ≤ n) {s : GSt} {l : LSt} (x : Int32) (hC : CG M s) (hN : CLn M l) (hV : WFL s l) (h : ∀ (M' : dp_M) (o' : Int64), CA M M' (fc_count s l x) → (u_k (fc_count s l x) = 0 → o' = (u_r (fc_count s l x)).toInt64) → Q (.inl (some (.int (nI (u_k (fc_count s l x)))))) M' o') : dp_run X (d + 7 + 1) 139 [.ref 0, .int x, .ref 26] n M o Q := by
  apply k_run
  intro K hK
  rw [mL_139]
  show K 0 [some (.ref 0), some (.int x), some (.ref 26), none] [] n 0 0 M o
  refine k_aload_n hK ti_139_0 rfl ?_
  refine k_iconst hK ti_139_1 kI_0 ?_
  refine k_aload_n hK ti_139_2 rfl ?_
  refine k_iload_n hK ti_139_3 rfl ?_
  refine k_callV hK (as := [.int _]) (st' := [.int _, .ref 26]) ti_139_4 ow_139 iv_5_63 mc_139 ms_139 rfl rfl (by omega) (Nat.le_of_ble_eq_true rfl) (Nat.le_of_ble_eq_true rfl) (Nat.le_of_ble_eq_true rfl) (Nat.le_of_ble_eq_true rfl) (by omega) rfl ?_
  refine sp_X3_count (by omega) x hC hN hV (fun M2 hA => ?_)
  refine aft_u1 (fck_count s l x) (fun e0 => ?_) (fun e1 => ?_)
  · refine k_i2l hK ti_139_7 ?_
    refine k_lastore hK ti_139_8 (by omega) ?_
    refine k_goto hK ti_139_9 jt_9_6 ?_
    refine k_iconst hK ti_139_15 kI_0 ?_
    refine k_ireturn hK ti_139_16 rk_139 mc_139 ms_139 (Nat.le_of_ble_eq_true rfl) (Nat.le_of_ble_eq_true rfl) ?_
    have h := h M2 _ hA (fun _ => rfl)
    rw [e0] at h
    exact h
  · refine k_caught hh_139 (h := 12) rfl rfl ?_
    refine k_astore_n hK (L' := [none, none, none, some (.ref 9999)]) ti_139_12 rfl ?_
    refine k_iconst hK ti_139_13 kI_1 ?_
    refine k_ireturn hK ti_139_14 rk_139 mc_139 ms_139 (Nat.le_of_ble_eq_true rfl) (Nat.le_of_ble_eq_true rfl) ?_
    have h := h M2 o hA (fun z => by omega)
    rw [e1] at h
    exact h

set_option maxRecDepth 100000 in
set_option maxHeartbeats 4000000 in
theorem sp_L_rarity {X : dp_X} {d n : Nat} {M : dp_M} {o : Int64} {Q : dp_Q} (h65 : 65 ≤ n) {s : GSt} {l : LSt} (x : Int32) (hC : CG M s) (hN : CLn M l) (hV : WFL s l) (h : ∀ (M' : dp_M) (o' : Int64), CA M M' (fc_rarity s l x) → (u_k (fc_rarity s l x) = 0 → o' = (u_r (fc_rarity s l x)).toInt64) → Q (.inl (some (.int (nI (u_k (fc_rarity s l x)))))) M' o') : dp_run X (d + 7 + 1) 140 [.ref 0, .int x, .ref 26] n M o Q := by
  apply k_run
  intro K hK
  rw [mL_140]
  show K 0 [some (.ref 0), some (.int x), some (.ref 26), none] [] n 0 0 M o
  refine k_aload_n hK ti_140_0 rfl ?_
  refine k_iconst hK ti_140_1 kI_0 ?_
  refine k_aload_n hK ti_140_2 rfl ?_
  refine k_iload_n hK ti_140_3 rfl ?_
  refine k_callV hK (as := [.int _]) (st' := [.int _, .ref 26]) ti_140_4 ow_140 iv_5_66 mc_140 ms_140 rfl rfl (by omega) (Nat.le_of_ble_eq_true rfl) (Nat.le_of_ble_eq_true rfl) (Nat.le_of_ble_eq_true rfl) (Nat.le_of_ble_eq_true rfl) (by omega) rfl ?_
  refine sp_X3_rarity (by omega) x hC hN hV (fun M2 hA => ?_)
  refine aft_u1 (fck_rarity s l x) (fun e0 => ?_) (fun e1 => ?_)
  · refine k_i2l hK ti_140_7 ?_
    refine k_lastore hK ti_140_8 (by omega) ?_
    refine k_goto hK ti_140_9 jt_9_6 ?_
    refine k_iconst hK ti_140_15 kI_0 ?_
    refine k_ireturn hK ti_140_16 rk_140 mc_140 ms_140 (Nat.le_of_ble_eq_true rfl) (Nat.le_of_ble_eq_true rfl) ?_
    have h := h M2 _ hA (fun _ => rfl)
    rw [e0] at h
    exact h
  · refine k_caught hh_140 (h := 12) rfl rfl ?_
    refine k_astore_n hK (L' := [none, none, none, some (.ref 9999)]) ti_140_12 rfl ?_
    refine k_iconst hK ti_140_13 kI_1 ?_
    refine k_ireturn hK ti_140_14 rk_140 mc_140 ms_140 (Nat.le_of_ble_eq_true rfl) (Nat.le_of_ble_eq_true rfl) ?_
    have h := h M2 o hA (fun z => by omega)
    rw [e1] at h
    exact h

set_option maxRecDepth 100000 in
set_option maxHeartbeats 4000000 in
theorem sp_L_advise {X : dp_X} {d n : Nat} {M : dp_M} {o : Int64} {Q : dp_Q} (h65 : 65 ≤ n) {s : GSt} {l : LSt} (x : Int32) (hC : CG M s) (hN : CLn M l) (hV : WFL s l) (h : ∀ (M' : dp_M) (o' : Int64), CA M M' (fc_advise s l x) → (u_k (fc_advise s l x) = 0 → o' = (u_r (fc_advise s l x)).toInt64) → Q (.inl (some (.int (nI (u_k (fc_advise s l x)))))) M' o') : dp_run X (d + 7 + 1) 144 [.ref 0, .int x, .ref 26] n M o Q := by
  apply k_run
  intro K hK
  rw [mL_144]
  show K 0 [some (.ref 0), some (.int x), some (.ref 26), none] [] n 0 0 M o
  refine k_aload_n hK ti_144_0 rfl ?_
  refine k_iconst hK ti_144_1 kI_0 ?_
  refine k_aload_n hK ti_144_2 rfl ?_
  refine k_iload_n hK ti_144_3 rfl ?_
  refine k_callV hK (as := [.int _]) (st' := [.int _, .ref 26]) ti_144_4 ow_144 iv_5_78 mc_144 ms_144 rfl rfl (by omega) (Nat.le_of_ble_eq_true rfl) (Nat.le_of_ble_eq_true rfl) (Nat.le_of_ble_eq_true rfl) (Nat.le_of_ble_eq_true rfl) (by omega) rfl ?_
  refine sp_X3_advise (by omega) x hC hN hV (fun M2 hA => ?_)
  refine aft_u1 (fck_advise s l x) (fun e0 => ?_) (fun e1 => ?_)
  · refine k_i2l hK ti_144_7 ?_
    refine k_lastore hK ti_144_8 (by omega) ?_
    refine k_goto hK ti_144_9 jt_9_6 ?_
    refine k_iconst hK ti_144_15 kI_0 ?_
    refine k_ireturn hK ti_144_16 rk_144 mc_144 ms_144 (Nat.le_of_ble_eq_true rfl) (Nat.le_of_ble_eq_true rfl) ?_
    have h := h M2 _ hA (fun _ => rfl)
    rw [e0] at h
    exact h
  · refine k_caught hh_144 (h := 12) rfl rfl ?_
    refine k_astore_n hK (L' := [none, none, none, some (.ref 9999)]) ti_144_12 rfl ?_
    refine k_iconst hK ti_144_13 kI_1 ?_
    refine k_ireturn hK ti_144_14 rk_144 mc_144 ms_144 (Nat.le_of_ble_eq_true rfl) (Nat.le_of_ble_eq_true rfl) ?_
    have h := h M2 o hA (fun z => by omega)
    rw [e1] at h
    exact h

set_option maxRecDepth 100000 in
set_option maxHeartbeats 4000000 in
theorem sp_L_print {X : dp_X} {d n : Nat} {M : dp_M} {o : Int64} {Q : dp_Q} (h65 : 65 ≤ n) {s : GSt} {l : LSt} (hC : CG M s) (hN : CLn M l) (hV : WFL s l) (h : ∀ (M' : dp_M) (o' : Int64), CA M M' (fc_print s l) → (u_k (fc_print s l) = 0 → o' = (u_r (fc_print s l)).toInt64) → Q (.inl (some (.int (nI (u_k (fc_print s l)))))) M' o') : dp_run X (d + 6 + 1) 125 [.ref 0, .ref 26] n M o Q := by
  apply k_run
  intro K hK
  rw [mL_125]
  show K 0 [some (.ref 0), some (.ref 26), none] [] n 0 0 M o
  refine k_aload_n hK ti_125_0 rfl ?_
  refine k_iconst hK ti_125_1 kI_0 ?_
  refine k_aload_n hK ti_125_2 rfl ?_
  refine k_callV hK (as := []) (st' := [.int _, .ref 26]) ti_125_3 ow_125 iv_5_15 mc_125 ms_125 rfl rfl (by omega) (Nat.le_of_ble_eq_true rfl) (Nat.le_of_ble_eq_true rfl) (Nat.le_of_ble_eq_true rfl) (Nat.le_of_ble_eq_true rfl) (by omega) rfl ?_
  refine sp_X3_print (by omega) hC hN hV (fun M2 hA => ?_)
  refine aft_u1 (fck_print s l) (fun e0 => ?_) (fun e1 => ?_)
  · refine k_i2l hK ti_125_6 ?_
    refine k_lastore hK ti_125_7 (by omega) ?_
    refine k_goto hK ti_125_8 jt_8_6 ?_
    refine k_iconst hK ti_125_14 kI_0 ?_
    refine k_ireturn hK ti_125_15 rk_125 mc_125 ms_125 (Nat.le_of_ble_eq_true rfl) (Nat.le_of_ble_eq_true rfl) ?_
    have h := h M2 _ hA (fun _ => rfl)
    rw [e0] at h
    exact h
  · refine k_caught hh_125 (h := 11) rfl rfl ?_
    refine k_astore_n hK (L' := [none, none, some (.ref 9999)]) ti_125_11 rfl ?_
    refine k_iconst hK ti_125_12 kI_1 ?_
    refine k_ireturn hK ti_125_13 rk_125 mc_125 ms_125 (Nat.le_of_ble_eq_true rfl) (Nat.le_of_ble_eq_true rfl) ?_
    have h := h M2 o hA (fun z => by omega)
    rw [e1] at h
    exact h
