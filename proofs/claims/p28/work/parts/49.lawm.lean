/-! What the law asks of a sending and of a round. -/
theorem i32_sa (a b : Int32) : a - b + b = a := by
  rw [Int32.sub_eq_add_neg, Int32.add_assoc, Int32.add_left_neg, Int32.add_zero]
theorem i32_ss {a b x : Int32} (h : b = a - x) : a - b = x := by
  rw [h, Int32.sub_eq_add_neg, Int32.neg_sub, Int32.sub_eq_add_neg, ← Int32.add_assoc, Int32.add_comm a x, Int32.add_assoc, Int32.add_right_neg, Int32.add_zero]
theorem i32_ss2 (a x y : Int32) : a - x - y = a - (x + y) := by
  rw [Int32.sub_eq_add_neg, Int32.sub_eq_add_neg, Int32.sub_eq_add_neg, Int32.neg_add, Int32.sub_eq_add_neg, Int32.add_assoc]
theorem prc_in (s : GSt) (l : LSt) (c a : Nat) : ∃ k, prc s l c a = nI k ∧ 2 ≤ k ∧ k ≤ 107374190 := by
  obtain ⟨j, hj, e⟩ := nI_of (sc_nn s l c a)
  refine ⟨2 + j / 20, ?_, by omega, by omega⟩
  unfold prc
  rw [e, pk_div (by omega) (by omega) (by omega), nI_add]
theorem fA_none {s : GSt} {l : LSt} {c p : Nat} (h : fts s l c = 0) : fA s l c p = none := by
  cases e : fA s l c p with
  | none => rfl
  | some a =>
    have h1 := cnt_pos (fA_lt e) (fA_fit e)
    have h2 : cnt (g_nA s) (fit s l c) = 0 := h
    omega
theorem fA_yes {s : GSt} {l : LSt} {c : Nat} (h : ¬ fts s l c = 0) : ∃ a, fA s l c 0 = some a := by
  obtain ⟨a, -, -, -, h1, -⟩ := fA_ex (show 0 < fts s l c by omega)
  exact ⟨a, h1⟩
theorem fit_book {s : GSt} {l : LSt} {c a b : Nat} {p : Int32} : fit s (book l c a p) c b = (fit s l c b && !decide (a = b)) := by
  have e1 : sc s (book l c a p) c b = sc s l c b := rfl
  have e2 : l_sent (book l c a p) c = l_sent l c ||| 2 ^ a := if_pos rfl
  unfold fit
  rw [e1, e2, bit_or]
  cases bit (l_sent l c) b <;> cases decide (a = b) <;> simp
theorem fts_book {s : GSt} {l : LSt} {c a : Nat} {p : Int32} (ha : a < g_nA s) (hf : fit s l c a = true) : fts s l c = fts s (book l c a p) c + 1 := by
  have h := cnt_set (p := fit s (book l c a p) c) ha (by rw [fit_book]; simp)
  have e : cnt (g_nA s) (fit s l c) = cnt (g_nA s) (fun k => fit s (book l c a p) c k || decide (a = k)) := cnt_congr (fun k _ => by
    rw [fit_book]
    by_cases e : a = k
    · subst e
      simp [hf]
    · simp [e])
  exact e.trans h
theorem fA_book {s : GSt} {l : LSt} {c a k : Nat} {p : Int32} : ¬ fA s (book l c a p) c k = some a := fun z => by
  have h := fA_fit z
  rw [fit_book] at h
  simp at h
theorem snt_book {s : GSt} {l : LSt} {c a : Nat} {p : Int32} (ha : a < g_nA s) (hf : fit s l c a = true) : snt s (book l c a p) c = snt s l c + 1 := by
  show cnt _ (fun b => bit (if c = c then l_sent l c ||| 2 ^ a else l_sent l c) b) = _
  rw [if_pos rfl]
  have e9 : (fun b => bit (l_sent l c ||| 2 ^ a) b) = (fun b => bit (l_sent l c) b || decide (a = b)) := funext fun b => bit_or
  rw [e9]
  exact cnt_set ha (fit_bit hf)
theorem sm_set {f g : Nat → Int32} {c n : Nat} {x : Int32} (hc : c < n) (h1 : g c = f c + x) (h2 : ∀ k, k ≠ c → g k = f k) : sm n g = sm n f + x := by
  induction n with
  | zero => omega
  | succ n ih =>
    by_cases e : c = n
    · subst e
      rw [sm, sm, h1, sm_congr (g := f) (fun k hk => h2 k (by omega)), Int32.add_assoc]
    · rw [sm, sm, ih (by omega), h2 n (by omega), Int32.add_assoc, Int32.add_assoc, Int32.add_comm x]
theorem pdA_book {s : GSt} {l : LSt} {c a : Nat} {p : Int32} (hc : c < g_nC s) : pdA s (book l c a p) = pdA s l + p := sm_set hc (if_pos rfl) (fun k hk => if_neg hk)
theorem sN_sub {f g : Nat → Nat} : ∀ {n : Nat}, (∀ k, k < n → f k ≤ g k) → sN n g = sN n f + sN n (fun k => g k - f k)
  | 0, _ => rfl
  | n + 1, h => by
    rw [sN, sN, sN, sN_sub (fun k hk => h k (by omega))]
    have := h n (by omega)
    omega
theorem sm_sub {f g h : Nat → Int32} : ∀ {n : Nat}, (∀ k, k < n → g k = f k + h k) → sm n g = sm n f + sm n h
  | 0, _ => (nI_zero_add (nI 0)).symm
  | n + 1, e => by
    rw [sm, sm, sm, sm_sub (fun k hk => e k (by omega)), e n (by omega), Int32.add_assoc, Int32.add_assoc, ← Int32.add_assoc (sm n h), Int32.add_comm (sm n h) (f n), Int32.add_assoc]
/-- what a client may be sent, at most m articles -/
def CR (m : Nat) (s : GSt) (l l' : LSt) (c : Nat) : Prop := ∃ b t, b ≤ m ∧ snt s l' c = snt s l c + b ∧ l_coin l' c = l_coin l c - nI t ∧ l_paid l' c = l_paid l c + nI t ∧ 2 * b ≤ t ∧ t ≤ 107374190 * b
theorem CR.refl {s : GSt} {l l' : LSt} {c : Nat} (h1 : l_sent l' c = l_sent l c) (h2 : l_coin l' c = l_coin l c) (h3 : l_paid l' c = l_paid l c) : CR 0 s l l' c :=
  ⟨0, 0, Nat.le_refl _, by unfold snt; rw [h1]; rfl, by rw [h2, nI_0]; exact (Int32.sub_zero _).symm, by rw [h3, nI_add_zero], Nat.le_refl _, Nat.le_refl _⟩
theorem CR.trans {m k : Nat} {s : GSt} {l l1 l2 : LSt} {c : Nat} (h : CR m s l l1 c) (h' : CR k s l1 l2 c) : CR (m + k) s l l2 c := by
  obtain ⟨b, t, a1, a2, a3, a4, a5, a6⟩ := h
  obtain ⟨b', t', c1, c2, c3, c4, c5, c6⟩ := h'
  exact ⟨b + b', t + t', by omega, by omega, by rw [c3, a3, i32_ss2, nI_add], by rw [c4, a4, Int32.add_assoc, nI_add], by omega, by omega⟩
theorem CR.send {s : GSt} {l : LSt} {c : Nat} : CR 1 s l (sendL s l c) c := by
  cases e : snd1 s l c with
  | none =>
    rw [sendL_none e]
    obtain ⟨b, t, h⟩ := CR.refl (s := s) (l := l) (l' := l) (c := c) rfl rfl rfl
    exact ⟨b, t, by omega, h.2⟩
  | some a =>
    rw [sendL_some e]
    have hA := snd1_some e
    obtain ⟨k, hk, h1, h2⟩ := prc_in s l c a
    refine ⟨1, k, Nat.le_refl _, snt_book (fA_lt hA) (fA_fit hA), ?_, ?_, by omega, by omega⟩
    · rw [← hk]
      exact if_pos rfl
    · rw [← hk]
      exact if_pos rfl
theorem CR.other {s : GSt} {l : LSt} {c k : Nat} (hk : k ≠ c) : CR 0 s l (sendL s l c) k := by
  cases e : snd1 s l c with
  | none => rw [sendL_none e]; exact CR.refl rfl rfl rfl
  | some a => rw [sendL_some e]; exact CR.refl (if_neg hk) (if_neg hk) (if_neg hk)
theorem cr_tw {s : GSt} {l : LSt} {c : Nat} : ∀ i, CR (min 2 (i - 2 * c)) s l (tw s l i) c
  | 0 => by
    rw [show min 2 (0 - 2 * c) = 0 by omega]
    exact CR.refl rfl rfl rfl
  | i + 1 => by
    have h := cr_tw (s := s) (l := l) (c := c) i
    by_cases e : c = i / 2
    · subst e
      have h2 := h.trans (CR.send (s := s) (l := tw s l i) (c := i / 2))
      rw [show min 2 (i - 2 * (i / 2)) + 1 = min 2 (i + 1 - 2 * (i / 2)) by omega] at h2
      exact h2
    · have h2 := h.trans (CR.other (s := s) (l := tw s l i) e)
      rw [show min 2 (i - 2 * c) + 0 = min 2 (i + 1 - 2 * c) by omega] at h2
      exact h2
theorem cr_round {s : GSt} {l : LSt} {c : Nat} (hc : c < g_nC s) : CR 2 s l (roundL s l) c := by
  obtain ⟨b, t, h1, h⟩ := cr_tw (s := s) (l := l) (c := c) (2 * g_nC s)
  exact ⟨b, t, by omega, h⟩
/-- what the clients are sent in a round, summed -/
theorem cr_rdn {s : GSt} {l : LSt} : rdn s l = sN (g_nC s) (fun c => snt s (roundL s l) c - snt s l c) := by
  have h1 := sntA_round (s := s) (l := l)
  have h2 : sntA s (roundL s l) = sntA s l + sN (g_nC s) (fun c => snt s (roundL s l) c - snt s l c) := sN_sub (fun k hk => by
    obtain ⟨b, t, -, e, -⟩ := cr_round (l := l) hk
    omega)
  omega
theorem cr_pdA {s : GSt} {l : LSt} : pdA s (roundL s l) = pdA s l + sm (g_nC s) (fun c => l_coin l c - l_coin (roundL s l) c) := sm_sub (fun k hk => by
  obtain ⟨b, t, -, -, e1, e2, -⟩ := cr_round (l := l) hk
  rw [i32_ss e1, e2])
theorem age_round {s : GSt} {l : LSt} {a : Nat} (ha : a < g_nA s) : l_age (roundL s l) a = l_age l a + nI 1 := by
  have e : ∀ i, l_age (tw s l i) a = l_age l a := fun i => by
    induction i with
    | zero => rfl
    | succ i ih =>
      rw [tw]
      cases e : snd1 s (tw s l i) (i / 2) with
      | none => rw [sendL_none e]; exact ih
      | some b => rw [sendL_some e]; exact ih
  show (if a < g_nA s then l_age (tw s l (2 * g_nC s)) a + nI 1 else l_age (tw s l (2 * g_nC s)) a) = _
  rw [if_pos ha, e]
theorem rnd_round {s : GSt} {l : LSt} : l_rnd (roundL s l) = l_rnd l + nI 1 := by
  have e : ∀ i, l_rnd (tw s l i) = l_rnd l := fun i => by
    induction i with
    | zero => rfl
    | succ i ih =>
      rw [tw]
      cases e : snd1 s (tw s l i) (i / 2) with
      | none => rw [sendL_none e]; exact ih
      | some b => rw [sendL_some e]; exact ih
  show l_rnd (tw s l (2 * g_nC s)) + nI 1 = _
  rw [e]
theorem roundsL_sh (s : GSt) (l : LSt) : ∀ i, roundsL s (roundL s l) i = roundsL s l (i + 1)
  | 0 => rfl
  | i + 1 => by
    rw [roundsL, roundsL_sh s l i]
    rfl
/-- a round brings the next want of coins nearer by one -/
theorem unt_round {s : GSt} {l : LSt} (h : 0 < oI (unt s l)) : oI (unt s (roundL s l)) = oI (unt s l) - nI 1 := by
  cases e : unt s l with
  | none =>
    rw [e] at h
    exact absurd h (by decide +kernel)
  | some k =>
    rw [e] at h
    obtain ⟨h1, h2, h3⟩ := frst_some e
    have hk : ¬ k < 1 := fun z => by
      have : k = 0 := by omega
      subst this
      exact absurd h (by decide +kernel)
    have e2 : unt s (roundL s l) = some (k - 1) := by
      refine frst_hit (by omega) ?_ (fun j hj => ?_)
      · rw [roundsL_sh, show k - 1 + 1 = k by omega]
        exact h2
      · rw [roundsL_sh]
        exact h3 (j + 1) (by omega)
    rw [e2]
    show nI (k - 1) = nI k - nI 1
    rw [pk_sub (by omega)]
