/-! The class's face, where nothing is refused. (written by wip/p28/cf.py) -/
theorem isin_of {k lo hi : Nat} (h1 : lo ≤ k) (h2 : k ≤ hi) (hh : hi < 2 ^ 31) : isin (nI k) (nI lo) (nI hi) = true := by
  unfold isin
  have e1 : ¬ nI k < nI lo := nI_nlt h1 (by omega)
  have e2 : ¬ nI hi < nI k := nI_nlt h2 hh
  simp [e1, e2]
def JC (M : dp_M) (s : GSt) (l : LSt) : Prop := CG M s ∧ CLn M l ∧ WFL s l
theorem JC.w {M : dp_M} {s : GSt} {l : LSt} (h : JC M s l) : GW s := h.1.w
/-- what a step of the law may do -/
def AS (s : GSt) (l : LSt) (s' : GSt) (l' : LSt) : Prop := (s' = s ∧ l' = l) ∨ (∃ a b, s' = setSt s a b ∧ l' = l) ∨ (g_nA s < 16 ∧ s' = prt s ∧ l' = l) ∨ (∃ a w, s' = wrt s a w ∧ l' = l) ∨ (∃ a p, s' = stk s a p ∧ l' = l) ∨
  (∃ k, k ≤ 999 ∧ g_nC s < 6 ∧ s' = cli s ∧ l' = setC l (g_nC s) (nI k)) ∨ (∃ c x, s' = adds s c x ∧ l' = l) ∨ (∃ c p, s' = drp s c p ∧ l' = l) ∨ (∃ c k, k ≤ 999 ∧ s' = setB s c (nI k) ∧ l' = l) ∨ (∃ c k, c < g_nC s ∧ k ≤ 999 ∧ s' = s ∧ l' = setC l c (mn (nI 9999) (l_coin l c + nI k))) ∨ (∃ c, c < g_nC s ∧ s' = s ∧ l' = sendL s l c)
theorem cf_told {X : dp_X} {d n : Nat} {M : dp_M} {o : dp_O} {Q : dp_Q} (h65 : 65 ≤ n) {s : GSt} {l : LSt} (a : Nat) (w : Nat) (hJ : JC M s l) (h0 : a < g_nA s) (h1 : w < 4) (h : ∀ M', JC M' s l → Q (.inl (some (.int (aT s l a w)))) M' o) : dp_run X (d + 6 + 1) 28 [.ref 0, .int (nI a), .int (nI w)] n M o Q := by
  have hA16 := hJ.w.1
  have hC6 := hJ.w.2.1
  have e : fc_told s l (nI a) (nI w) = ok (aT s l a w) s l := by
    simp only [fc_told, ix_nI h0 (by omega), ix_nI h1 (by decide)]
  refine sp_X3_told h65 _ _ hJ.1 hJ.2.1 hJ.2.2 (fun M' hA => ?_)
  rw [e] at hA ⊢
  exact h M' ⟨hA.2.1, hA.2.2, hJ.2.2⟩
theorem cf_about {X : dp_X} {d n : Nat} {M : dp_M} {o : dp_O} {Q : dp_Q} (h65 : 65 ≤ n) {s : GSt} {l : LSt} (c : Nat) (w : Nat) (hJ : JC M s l) (h0 : c < g_nC s) (h1 : w < 6) (h : ∀ M', JC M' s l → Q (.inl (some (.int (cT s l c w)))) M' o) : dp_run X (d + 6 + 1) 30 [.ref 0, .int (nI c), .int (nI w)] n M o Q := by
  have hA16 := hJ.w.1
  have hC6 := hJ.w.2.1
  have e : fc_about s l (nI c) (nI w) = ok (cT s l c w) s l := by
    simp only [fc_about, ix_nI h0 (by omega), ix_nI h1 (by decide)]
  refine sp_X3_about h65 _ _ hJ.1 hJ.2.1 hJ.2.2 (fun M' hA => ?_)
  rw [e] at hA ⊢
  exact h M' ⟨hA.2.1, hA.2.2, hJ.2.2⟩
theorem cf_word {X : dp_X} {d n : Nat} {M : dp_M} {o : dp_O} {Q : dp_Q} (h65 : 65 ≤ n) {s : GSt} {l : LSt} (a : Nat) (k : Nat) (hJ : JC M s l) (h0 : a < g_nA s) (h1 : k < g_len s a) (h : ∀ M', JC M' s l → Q (.inl (some (.int (nI (g_wd s a k))))) M' o) : dp_run X (d + 6 + 1) 29 [.ref 0, .int (nI a), .int (nI k)] n M o Q := by
  have hA16 := hJ.w.1
  have hC6 := hJ.w.2.1
  have e : fc_word s l (nI a) (nI k) = ok (nI (g_wd s a k)) s l := by
    have h9 := hJ.w.2.2.2.1 a (by omega)
    simp only [fc_word, ix_nI h0 (by omega), ix_nI h1 (by omega)]
  refine sp_X3_word h65 _ _ hJ.1 hJ.2.1 hJ.2.2 (fun M' hA => ?_)
  rw [e] at hA ⊢
  exact h M' ⟨hA.2.1, hA.2.2, hJ.2.2⟩
theorem cf_stem {X : dp_X} {d n : Nat} {M : dp_M} {o : dp_O} {Q : dp_Q} (h65 : 65 ≤ n) {s : GSt} {l : LSt} (c : Nat) (k : Nat) (hJ : JC M s l) (h0 : c < g_nC s) (h1 : k < g_many s c) (h : ∀ M', JC M' s l → Q (.inl (some (.int (nI (g_wish s c k))))) M' o) : dp_run X (d + 6 + 1) 31 [.ref 0, .int (nI c), .int (nI k)] n M o Q := by
  have hA16 := hJ.w.1
  have hC6 := hJ.w.2.1
  have e : fc_stem s l (nI c) (nI k) = ok (nI (g_wish s c k)) s l := by
    have h9 := hJ.w.2.2.2.2.2.1 c (by omega)
    simp only [fc_stem, ix_nI h0 (by omega), ix_nI h1 (by omega)]
  refine sp_X3_stem h65 _ _ hJ.1 hJ.2.1 hJ.2.2 (fun M' hA => ?_)
  rw [e] at hA ⊢
  exact h M' ⟨hA.2.1, hA.2.2, hJ.2.2⟩
theorem cf_count {X : dp_X} {d n : Nat} {M : dp_M} {o : dp_O} {Q : dp_Q} (h65 : 65 ≤ n) {s : GSt} {l : LSt} (w : Nat) (hJ : JC M s l) (h0 : w < 7) (h : ∀ M', JC M' s l → Q (.inl (some (.int (nT s l w)))) M' o) : dp_run X (d + 6 + 1) 32 [.ref 0, .int (nI w)] n M o Q := by
  have hA16 := hJ.w.1
  have hC6 := hJ.w.2.1
  have e : fc_count s l (nI w) = ok (nT s l w) s l := by
    simp only [fc_count, ix_nI h0 (by decide)]
  refine sp_X3_count h65 _ hJ.1 hJ.2.1 hJ.2.2 (fun M' hA => ?_)
  rw [e] at hA ⊢
  exact h M' ⟨hA.2.1, hA.2.2, hJ.2.2⟩
theorem cf_rarity {X : dp_X} {d n : Nat} {M : dp_M} {o : dp_O} {Q : dp_Q} (h65 : 65 ≤ n) {s : GSt} {l : LSt} (x : Nat) (hJ : JC M s l) (h0 : x < 20) (h : ∀ M', JC M' s l → Q (.inl (some (.int (nI (rar s x))))) M' o) : dp_run X (d + 6 + 1) 33 [.ref 0, .int (nI x)] n M o Q := by
  have hA16 := hJ.w.1
  have hC6 := hJ.w.2.1
  have e : fc_rarity s l (nI x) = ok (nI (rar s x)) s l := by
    simp only [fc_rarity, ix_nI h0 (by decide)]
  refine sp_X3_rarity h65 _ hJ.1 hJ.2.1 hJ.2.2 (fun M' hA => ?_)
  rw [e] at hA ⊢
  exact h M' ⟨hA.2.1, hA.2.2, hJ.2.2⟩
theorem cf_score {X : dp_X} {d n : Nat} {M : dp_M} {o : dp_O} {Q : dp_Q} (h65 : 65 ≤ n) {s : GSt} {l : LSt} (c : Nat) (a : Nat) (hJ : JC M s l) (h0 : c < g_nC s) (h1 : a < g_nA s) (h : ∀ M', JC M' s l → Q (.inl (some (.int (sc s l c a)))) M' o) : dp_run X (d + 6 + 1) 34 [.ref 0, .int (nI c), .int (nI a)] n M o Q := by
  have hA16 := hJ.w.1
  have hC6 := hJ.w.2.1
  have e : fc_score s l (nI c) (nI a) = ok (sc s l c a) s l := by
    simp only [fc_score, ix_nI h0 (by omega), ix_nI h1 (by omega)]
  refine sp_X3_score h65 _ _ hJ.1 hJ.2.1 hJ.2.2 (fun M' hA => ?_)
  rw [e] at hA ⊢
  exact h M' ⟨hA.2.1, hA.2.2, hJ.2.2⟩
theorem cf_fit {X : dp_X} {d n : Nat} {M : dp_M} {o : dp_O} {Q : dp_Q} (h65 : 65 ≤ n) {s : GSt} {l : LSt} (c : Nat) (k : Nat) (hJ : JC M s l) (h0 : c < g_nC s) (h1 : k < fts s l c) (h : ∀ M', JC M' s l → Q (.inl (some (.int (oI (fA s l c k))))) M' o) : dp_run X (d + 6 + 1) 35 [.ref 0, .int (nI c), .int (nI k)] n M o Q := by
  have hA16 := hJ.w.1
  have hC6 := hJ.w.2.1
  have e : fc_fit s l (nI c) (nI k) = ok (oI (fA s l c k)) s l := by
    have h9 : fts s l c ≤ g_nA s := cnt_le _ _
    simp only [fc_fit, ix_nI h0 (by omega), ix_nI h1 (by omega)]
  refine sp_X3_fit h65 _ _ hJ.1 hJ.2.1 hJ.2.2 (fun M' hA => ?_)
  rw [e] at hA ⊢
  exact h M' ⟨hA.2.1, hA.2.2, hJ.2.2⟩
theorem cf_setStem {X : dp_X} {d n : Nat} {M : dp_M} {o : dp_O} {Q : dp_Q} (h65 : 65 ≤ n) {s : GSt} {l : LSt} (a : Nat) (b : Nat) (hJ : JC M s l) (h0 : a < 40) (h1 : b < 20) (h : ∀ M', JC M' (setSt s a b) l → Q (.inl (some (.int (nI (g_st s a))))) M' o) : dp_run X (d + 6 + 1) 17 [.ref 0, .int (nI a), .int (nI b)] n M o Q := by
  have hA16 := hJ.w.1
  have hC6 := hJ.w.2.1
  have e : fc_setStem s l (nI a) (nI b) = ok (nI (g_st s a)) (setSt s a b) l := by
    simp only [fc_setStem, ix_nI h0 (by decide), ix_nI h1 (by decide)]
  refine sp_X3_setStem h65 _ _ hJ.1 hJ.2.1 hJ.2.2 (fun M' hA => ?_)
  rw [e] at hA ⊢
  exact h M' ⟨hA.2.1, hA.2.2, hJ.2.2⟩
theorem cf_print {X : dp_X} {d n : Nat} {M : dp_M} {o : dp_O} {Q : dp_Q} (h65 : 65 ≤ n) {s : GSt} {l : LSt} (hJ : JC M s l) (h0 : g_nA s < 16) (h : ∀ M', JC M' (prt s) l → Q (.inl (some (.int (nI (g_nA s))))) M' o) : dp_run X (d + 5 + 1) 18 [.ref 0] n M o Q := by
  have hA16 := hJ.w.1
  have hC6 := hJ.w.2.1
  have e : fc_print s l = ok (nI (g_nA s)) (prt s) l := by
    unfold fc_print; rw [if_neg (by omega)]
  refine sp_X3_print h65 hJ.1 hJ.2.1 hJ.2.2 (fun M' hA => ?_)
  rw [e] at hA ⊢
  exact h M' ⟨hA.2.1, hA.2.2, ⟨hJ.2.2.1, fun c a hc ha => hJ.2.2.2 c a hc (Nat.le_of_succ_le ha)⟩⟩
theorem cf_write {X : dp_X} {d n : Nat} {M : dp_M} {o : dp_O} {Q : dp_Q} (h65 : 65 ≤ n) {s : GSt} {l : LSt} (a : Nat) (w : Nat) (hJ : JC M s l) (h0 : a < g_nA s) (h1 : w < 40) (h2 : g_len s a < 12) (h : ∀ M', JC M' (wrt s a w) l → Q (.inl (some (.int (nI (g_len s a + 1))))) M' o) : dp_run X (d + 6 + 1) 19 [.ref 0, .int (nI a), .int (nI w)] n M o Q := by
  have hA16 := hJ.w.1
  have hC6 := hJ.w.2.1
  have e : fc_write s l (nI a) (nI w) = ok (nI (g_len s a + 1)) (wrt s a w) l := by
    simp only [fc_write, ix_nI h0 (by omega), ix_nI h1 (by decide), if_neg (show ¬ g_len s a = 12 by omega)]
  refine sp_X3_write h65 _ _ hJ.1 hJ.2.1 hJ.2.2 (fun M' hA => ?_)
  rw [e] at hA ⊢
  exact h M' ⟨hA.2.1, hA.2.2, hJ.2.2⟩
theorem cf_strike {X : dp_X} {d n : Nat} {M : dp_M} {o : dp_O} {Q : dp_Q} (h65 : 65 ≤ n) {s : GSt} {l : LSt} (a : Nat) (k : Nat) (hJ : JC M s l) (h0 : a < g_nA s) (h1 : k < g_len s a) (h : ∀ M', JC M' (stk s a k) l → Q (.inl (some (.int (nI (g_wd s a k))))) M' o) : dp_run X (d + 6 + 1) 20 [.ref 0, .int (nI a), .int (nI k)] n M o Q := by
  have hA16 := hJ.w.1
  have hC6 := hJ.w.2.1
  have e : fc_strike s l (nI a) (nI k) = ok (nI (g_wd s a k)) (stk s a k) l := by
    have h9 := hJ.w.2.2.2.1 a (by omega)
    simp only [fc_strike, ix_nI h0 (by omega), ix_nI h1 (by omega)]
  refine sp_X3_strike h65 _ _ hJ.1 hJ.2.1 hJ.2.2 (fun M' hA => ?_)
  rw [e] at hA ⊢
  exact h M' ⟨hA.2.1, hA.2.2, hJ.2.2⟩
theorem cf_client {X : dp_X} {d n : Nat} {M : dp_M} {o : dp_O} {Q : dp_Q} (h65 : 65 ≤ n) {s : GSt} {l : LSt} (k : Nat) (hJ : JC M s l) (h0 : k ≤ 999) (h1 : g_nC s < 6) (h : ∀ M', JC M' (cli s) (setC l (g_nC s) (nI k)) → Q (.inl (some (.int (nI (g_nC s))))) M' o) : dp_run X (d + 5 + 1) 21 [.ref 0, .int (nI k)] n M o Q := by
  have hA16 := hJ.w.1
  have hC6 := hJ.w.2.1
  have e : fc_client s l (nI k) = ok (nI (g_nC s)) (cli s) (setC l (g_nC s) (nI k)) := by
    unfold fc_client; rw [if_pos (isin_of (by omega) h0 (by decide)), if_neg (by omega)]
  refine sp_X3_client h65 _ hJ.1 hJ.2.1 hJ.2.2 (fun M' hA => ?_)
  rw [e] at hA ⊢
  exact h M' ⟨hA.2.1, hA.2.2, ⟨fun c e1 e2 => hJ.2.2.1 c (Nat.le_of_succ_le e1) e2, hJ.2.2.2⟩⟩
theorem cf_want {X : dp_X} {d n : Nat} {M : dp_M} {o : dp_O} {Q : dp_Q} (h65 : 65 ≤ n) {s : GSt} {l : LSt} (c : Nat) (x : Nat) (hJ : JC M s l) (h0 : c < g_nC s) (h1 : x < 20) (h2 : g_many s c < 5) (h3 : wsh s c x = none) (h : ∀ M', JC M' (adds s c x) l → Q (.inl (some (.int (nI (g_many s c + 1))))) M' o) : dp_run X (d + 6 + 1) 22 [.ref 0, .int (nI c), .int (nI x)] n M o Q := by
  have hA16 := hJ.w.1
  have hC6 := hJ.w.2.1
  have e : fc_want s l (nI c) (nI x) = ok (nI (g_many s c + 1)) (adds s c x) l := by
    simp only [fc_want, ix_nI h0 (by omega), ix_nI h1 (by decide), if_neg (show ¬ g_many s c = 5 by omega), h3]
  refine sp_X3_want h65 _ _ hJ.1 hJ.2.1 hJ.2.2 (fun M' hA => ?_)
  rw [e] at hA ⊢
  exact h M' ⟨hA.2.1, hA.2.2, hJ.2.2⟩
theorem cf_drop {X : dp_X} {d n : Nat} {M : dp_M} {o : dp_O} {Q : dp_Q} (h65 : 65 ≤ n) {s : GSt} {l : LSt} (c : Nat) (x : Nat) (p : Nat) (hJ : JC M s l) (h0 : c < g_nC s) (h1 : x < 20) (h2 : wsh s c x = some p) (h : ∀ M', JC M' (drp s c p) l → Q (.inl (some (.int (nI p)))) M' o) : dp_run X (d + 6 + 1) 23 [.ref 0, .int (nI c), .int (nI x)] n M o Q := by
  have hA16 := hJ.w.1
  have hC6 := hJ.w.2.1
  have e : fc_drop s l (nI c) (nI x) = ok (nI p) (drp s c p) l := by
    simp only [fc_drop, ix_nI h0 (by omega), ix_nI h1 (by decide), h2]
  refine sp_X3_drop h65 _ _ hJ.1 hJ.2.1 hJ.2.2 (fun M' hA => ?_)
  rw [e] at hA ⊢
  exact h M' ⟨hA.2.1, hA.2.2, hJ.2.2⟩
theorem cf_setBar {X : dp_X} {d n : Nat} {M : dp_M} {o : dp_O} {Q : dp_Q} (h65 : 65 ≤ n) {s : GSt} {l : LSt} (c : Nat) (k : Nat) (hJ : JC M s l) (h0 : c < g_nC s) (h1 : k ≤ 999) (h : ∀ M', JC M' (setB s c (nI k)) l → Q (.inl (some (.int (g_bar s c)))) M' o) : dp_run X (d + 6 + 1) 24 [.ref 0, .int (nI c), .int (nI k)] n M o Q := by
  have hA16 := hJ.w.1
  have hC6 := hJ.w.2.1
  have e : fc_setBar s l (nI c) (nI k) = ok (g_bar s c) (setB s c (nI k)) l := by
    simp only [fc_setBar, ix_nI h0 (by omega)]; exact if_pos (isin_of (by omega) h1 (by decide))
  refine sp_X3_setBar h65 _ _ hJ.1 hJ.2.1 hJ.2.2 (fun M' hA => ?_)
  rw [e] at hA ⊢
  exact h M' ⟨hA.2.1, hA.2.2, hJ.2.2⟩
theorem cf_pay {X : dp_X} {d n : Nat} {M : dp_M} {o : dp_O} {Q : dp_Q} (h65 : 65 ≤ n) {s : GSt} {l : LSt} (c : Nat) (k : Nat) (hJ : JC M s l) (h0 : c < g_nC s) (h1 : 1 ≤ k) (h2 : k ≤ 999) (h : ∀ M', JC M' s (setC l c (mn (nI 9999) (l_coin l c + nI k))) → Q (.inl (some (.int (mn (nI 9999) (l_coin l c + nI k))))) M' o) : dp_run X (d + 6 + 1) 25 [.ref 0, .int (nI c), .int (nI k)] n M o Q := by
  have hA16 := hJ.w.1
  have hC6 := hJ.w.2.1
  have e : fc_pay s l (nI c) (nI k) = ok (mn (nI 9999) (l_coin l c + nI k)) s (setC l c (mn (nI 9999) (l_coin l c + nI k))) := by
    simp only [fc_pay, ix_nI h0 (by omega)]; exact if_pos (isin_of h1 h2 (by decide))
  refine sp_X3_pay h65 _ _ hJ.1 hJ.2.1 hJ.2.2 (fun M' hA => ?_)
  rw [e] at hA ⊢
  exact h M' ⟨hA.2.1, hA.2.2, hJ.2.2⟩
theorem cf_send {X : dp_X} {d n : Nat} {M : dp_M} {o : dp_O} {Q : dp_Q} (h65 : 65 ≤ n) {s : GSt} {l : LSt} (c : Nat) (hJ : JC M s l) (h0 : c < g_nC s) (h : ∀ M', JC M' s (sendL s l c) → Q (.inl (some (.int (oI (snd1 s l c))))) M' o) : dp_run X (d + 6 + 1) 26 [.ref 0, .int (nI c)] n M o Q := by
  have hA16 := hJ.w.1
  have hC6 := hJ.w.2.1
  have e : fc_send s l (nI c) = ok (oI (snd1 s l c)) s (sendL s l c) := by
    simp only [fc_send, ix_nI h0 (by omega)]
  refine sp_X3_send h65 _ hJ.1 hJ.2.1 hJ.2.2 (fun M' hA => ?_)
  rw [e] at hA ⊢
  exact h M' ⟨hA.2.1, hA.2.2, hJ.2.2.send h0⟩
theorem cf_pass {X : dp_X} {d n : Nat} {M : dp_M} {o : dp_O} {Q : dp_Q} (h65 : 65 ≤ n) {s : GSt} {l : LSt} (hJ : JC M s l) (h : ∀ M', JC M' s (roundL s l) → Q (.inl (some (.int (nI (rdn s l))))) M' o) : dp_run X (d + 6 + 1) 27 [.ref 0, .int (nI 1)] n M o Q := by
  have hA16 := hJ.w.1
  have hC6 := hJ.w.2.1
  have e : fc_pass s l (nI 1) = ok (nI (rdn s l)) s (roundL s l) := by
    unfold fc_pass; rw [if_pos (isin_of (Nat.le_refl _) (by decide) (by decide)), show (nI 1).toNatClampNeg = 1 from nI_clamp (by decide)]; show ok (nI (rdsn s l 1)) s (roundsL s l 1) = _; rw [show rdsn s l 1 = rdn s l by show 0 + rdn s (roundsL s l 0) = _; rw [Nat.zero_add]; rfl]; rfl
  refine sp_X3_pass h65 _ hJ.1 hJ.2.1 hJ.2.2 (fun M' hA => ?_)
  rw [e] at hA ⊢
  exact h M' ⟨hA.2.1, hA.2.2, hJ.2.2.round⟩
theorem cf_until {X : dp_X} {d n : Nat} {M : dp_M} {o : dp_O} {Q : dp_Q} (h65 : 65 ≤ n) {s : GSt} {l : LSt} (hJ : JC M s l) (h : ∀ M', JC M' s l → Q (.inl (some (.int (oI (unt s l))))) M' o) : dp_run X (d + 6 + 1) 36 [.ref 0] n M o Q :=
  sp_X3_until h65 hJ.1 hJ.2.1 hJ.2.2 (fun M' hA => h M' ⟨hA.2.1, hA.2.2, hJ.2.2⟩)
