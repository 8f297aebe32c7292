/-! Ledgers in the class's memory. (written by wip/whole/led.py) -/
theorem CG.congr {M M' : dp_M} {s : GSt} (hF : ∀ h k, (h = 1 ∨ h = 2 ∨ h = 6 ∨ h = 8 ∨ h = 10 ∨ h = 12 ∨ h = 13 ∨ (27 ≤ h ∧ h < 65)) → M' h k = M h k) (h : CG M s) : CG M' s := by
  obtain ⟨h0, h1, h2, h3, h4, h5, h6, h7, h8, h9, h10, h11, h12, h13⟩ := h
  refine ⟨h0, h1, h2, (hF _ _ ?_).trans h3, (hF _ _ ?_).trans h4, fun w hw => (hF _ _ ?_).trans (h5 w hw), fun a ha => (hF _ _ ?_).trans (h6 a ha), fun a k ha hk => (hF _ _ ?_).trans (h7 a k ha hk), fun a x h1 h2 => (hF _ _ ?_).trans (h8 a x h1 h2), fun c hc => (hF _ _ ?_).trans (h9 c hc), fun c hc => (hF _ _ ?_).trans (h10 c hc), fun c k hc hk => (hF _ _ ?_).trans (h11 c k hc hk), fun c hc => (hF _ _ ?_).trans (h12 c hc), fun c h1 h2 => (hF _ _ ?_).trans (h13 c h1 h2)⟩
  all_goals omega
theorem sc_adds {s : GSt} {l : LSt} {c x a : Nat} : sc (adds s c x) l c a = scw s (g_wish (adds s c x) c) (g_many s c + 1) a (l_age l a) := by
  unfold sc
  rw [show g_many (adds s c x) c = g_many s c + 1 from if_pos rfl]
  rfl
theorem bf_top {s : GSt} {l : LSt} {c : Nat} : (bf s l c (g_nA s)).2 = (match fA s l c 0 with | none => -1 | some a => sc s l c a) := by
  obtain ⟨i1, i2, i3⟩ := bf_inv s l c (g_nA s)
  rw [← bf_fA]
  cases e : (bf s l c (g_nA s)).1 with
  | none => exact i3 e
  | some b => exact (i1 b e).2.2.1
def w5 (h _k : Nat) : Prop := h = 5
def tpw (s : GSt) (l : LSt) (c x : Nat) : Int32 := if g_many s c = 5 then -1 else tp s l c x

def wL_n (h k : Nat) : Prop := (14 ≤ h ∧ h ≤ 17) ∨ (h = 3 ∧ k = 4)
theorem CG.fr_n {M M' : dp_M} {s : GSt} (hF : Fr wL_n M M') (h : CG M s) : CG M' s := h.congr (fun h k e => hF h k (fun z => by simp only [wL_n] at z; omega))
theorem CL_n_congr {M M' : dp_M} {l : LSt} (hF : ∀ h k, wL_n h k → M' h k = M h k) (h : CLn M l) : CLn M' l := by
  obtain ⟨h0, h1, h2, h3⟩ := h
  refine ⟨h0, fun a ha => (hF _ _ ?_).trans (h1 a ha), fun c hc => ⟨(hF _ _ ?_).trans (h2 c hc).1, (hF _ _ ?_).trans (h2 c hc).2.1, (hF _ _ ?_).trans (h2 c hc).2.2⟩, (hF _ _ ?_).trans h3⟩
  all_goals first | exact Or.inr ⟨rfl, rfl⟩ | exact Or.inl (by omega)
theorem CL_n_book {M : dp_M} {l : LSt} (hL : CLn M l) {c : Nat} (hc : c < 6) {a : Nat} (ha : a < 16) (p : Int32) : CLn (dp_up (dp_up (dp_up M 15 c (l_coin l c - p)) 16 c (l_paid l c + p)) 17 c (nI (l_sent l c ||| 2 ^ a))) (book l c a p) := by
  obtain ⟨hW, h1, h2, h3⟩ := hL
  refine ⟨?_, ?_, ?_, ?_⟩
  · intro k hk
    show (if k = c then _ else _) < _
    split
    · exact or_lt (hW c hc) ha
    · exact hW k hk
  · intro a ha
    rw [dp_up_h (by decide), dp_up_h (by decide), dp_up_h (by decide)]
    exact h1 a ha
  · intro k hk
    obtain ⟨g1, g2, g3⟩ := h2 k hk
    by_cases e : k = c
    · subst e
      refine ⟨?_, ?_, ?_⟩
      · rw [dp_up_h (by decide), dp_up_h (by decide), dp_up_s]
        exact (if_pos rfl).symm
      · rw [dp_up_h (by decide), dp_up_s]
        exact (if_pos rfl).symm
      · rw [dp_up_s]
        exact congrArg nI (if_pos rfl).symm
    · refine ⟨?_, ?_, ?_⟩
      · rw [dp_up_k e, dp_up_k e, dp_up_k e, g1]
        exact (if_neg e).symm
      · rw [dp_up_k e, dp_up_k e, dp_up_k e, g2]
        exact (if_neg e).symm
      · rw [dp_up_k e, dp_up_k e, dp_up_k e, g3]
        exact congrArg nI (if_neg e).symm
  · rw [dp_up_h (by decide), dp_up_h (by decide), dp_up_h (by decide)]
    exact h3
theorem CL_n_age {M : dp_M} {l : LSt} {i : Nat} (hL : CLn M (oldp l i)) : CLn (dp_up M 14 i (l_age l i + nI 1)) (oldp l (i + 1)) := by
  obtain ⟨hW, h1, h2, h3⟩ := hL
  refine ⟨hW, ?_, ?_, ?_⟩
  · intro a ha
    show _ = (if a < i + 1 then _ else _)
    by_cases e : a = i
    · subst e
      rw [dp_up_s, if_pos (by omega)]
    · rw [dp_up_k e, h1 a ha]
      show (if a < i then _ else _) = _
      by_cases e2 : a < i
      · rw [if_pos e2, if_pos (by omega)]
      · rw [if_neg e2, if_neg (by omega)]
  · intro k hk
    rw [dp_up_h (by decide), dp_up_h (by decide), dp_up_h (by decide)]
    exact h2 k hk
  · rw [dp_up_h (by decide)]
    exact h3
theorem CL_n_rnd {M : dp_M} {l : LSt} (hL : CLn M l) : CLn (dp_up M 3 4 (l_rnd l + nI 1)) (rnd1 l) := by
  obtain ⟨hW, h1, h2, h3⟩ := hL
  refine ⟨hW, ?_, ?_, ?_⟩
  · intro a ha
    rw [dp_up_h (by decide)]
    exact h1 a ha
  · intro k hk
    rw [dp_up_h (by decide), dp_up_h (by decide), dp_up_h (by decide)]
    exact h2 k hk
  · exact dp_up_s _ _ _ _
theorem CL_n_at {M : dp_M} {l : LSt} {i : Nat} (hL : CLn M (oldp l i)) (hi : i < 16) : M 14 i = l_age l i := by
  rw [hL.2.1 i hi]
  exact if_neg (by omega)

def wL_f (h k : Nat) : Prop := (18 ≤ h ∧ h ≤ 21) ∨ (h = 4 ∧ k = 4)
theorem CG.fr_f {M M' : dp_M} {s : GSt} (hF : Fr wL_f M M') (h : CG M s) : CG M' s := h.congr (fun h k e => hF h k (fun z => by simp only [wL_f] at z; omega))
theorem CL_f_congr {M M' : dp_M} {l : LSt} (hF : ∀ h k, wL_f h k → M' h k = M h k) (h : CLf M l) : CLf M' l := by
  obtain ⟨h0, h1, h2, h3⟩ := h
  refine ⟨h0, fun a ha => (hF _ _ ?_).trans (h1 a ha), fun c hc => ⟨(hF _ _ ?_).trans (h2 c hc).1, (hF _ _ ?_).trans (h2 c hc).2.1, (hF _ _ ?_).trans (h2 c hc).2.2⟩, (hF _ _ ?_).trans h3⟩
  all_goals first | exact Or.inr ⟨rfl, rfl⟩ | exact Or.inl (by omega)
theorem CL_f_book {M : dp_M} {l : LSt} (hL : CLf M l) {c : Nat} (hc : c < 6) {a : Nat} (ha : a < 16) (p : Int32) : CLf (dp_up (dp_up (dp_up M 19 c (l_coin l c - p)) 20 c (l_paid l c + p)) 21 c (nI (l_sent l c ||| 2 ^ a))) (book l c a p) := by
  obtain ⟨hW, h1, h2, h3⟩ := hL
  refine ⟨?_, ?_, ?_, ?_⟩
  · intro k hk
    show (if k = c then _ else _) < _
    split
    · exact or_lt (hW c hc) ha
    · exact hW k hk
  · intro a ha
    rw [dp_up_h (by decide), dp_up_h (by decide), dp_up_h (by decide)]
    exact h1 a ha
  · intro k hk
    obtain ⟨g1, g2, g3⟩ := h2 k hk
    by_cases e : k = c
    · subst e
      refine ⟨?_, ?_, ?_⟩
      · rw [dp_up_h (by decide), dp_up_h (by decide), dp_up_s]
        exact (if_pos rfl).symm
      · rw [dp_up_h (by decide), dp_up_s]
        exact (if_pos rfl).symm
      · rw [dp_up_s]
        exact congrArg nI (if_pos rfl).symm
    · refine ⟨?_, ?_, ?_⟩
      · rw [dp_up_k e, dp_up_k e, dp_up_k e, g1]
        exact (if_neg e).symm
      · rw [dp_up_k e, dp_up_k e, dp_up_k e, g2]
        exact (if_neg e).symm
      · rw [dp_up_k e, dp_up_k e, dp_up_k e, g3]
        exact congrArg nI (if_neg e).symm
  · rw [dp_up_h (by decide), dp_up_h (by decide), dp_up_h (by decide)]
    exact h3
theorem CL_f_age {M : dp_M} {l : LSt} {i : Nat} (hL : CLf M (oldp l i)) : CLf (dp_up M 18 i (l_age l i + nI 1)) (oldp l (i + 1)) := by
  obtain ⟨hW, h1, h2, h3⟩ := hL
  refine ⟨hW, ?_, ?_, ?_⟩
  · intro a ha
    show _ = (if a < i + 1 then _ else _)
    by_cases e : a = i
    · subst e
      rw [dp_up_s, if_pos (by omega)]
    · rw [dp_up_k e, h1 a ha]
      show (if a < i then _ else _) = _
      by_cases e2 : a < i
      · rw [if_pos e2, if_pos (by omega)]
      · rw [if_neg e2, if_neg (by omega)]
  · intro k hk
    rw [dp_up_h (by decide), dp_up_h (by decide), dp_up_h (by decide)]
    exact h2 k hk
  · rw [dp_up_h (by decide)]
    exact h3
theorem CL_f_rnd {M : dp_M} {l : LSt} (hL : CLf M l) : CLf (dp_up M 4 4 (l_rnd l + nI 1)) (rnd1 l) := by
  obtain ⟨hW, h1, h2, h3⟩ := hL
  refine ⟨hW, ?_, ?_, ?_⟩
  · intro a ha
    rw [dp_up_h (by decide)]
    exact h1 a ha
  · intro k hk
    rw [dp_up_h (by decide), dp_up_h (by decide), dp_up_h (by decide)]
    exact h2 k hk
  · exact dp_up_s _ _ _ _
theorem CL_f_at {M : dp_M} {l : LSt} {i : Nat} (hL : CLf M (oldp l i)) (hi : i < 16) : M 18 i = l_age l i := by
  rw [hL.2.1 i hi]
  exact if_neg (by omega)

/-- what copying does -/
def cpf (M : dp_M) : dp_M :=
  let M1 := dp_row M 18 (va_cpy (M 14) (M 18) 0 0 16)
  let M2 := dp_row M1 19 (va_cpy (M1 15) (M1 19) 0 0 6)
  let M3 := dp_row M2 20 (va_cpy (M2 16) (M2 20) 0 0 6)
  let M4 := dp_row M3 21 (va_cpy (M3 17) (M3 21) 0 0 6)
  dp_up M4 4 4 (M4 3 4)
theorem CL_cpf {M : dp_M} {l : LSt} (h : CLn M l) : CLf (cpf M) l := by
  obtain ⟨h0, h1, h2, h3⟩ := h
  unfold cpf
  refine ⟨h0, fun a ha => ?_, fun c hc => ⟨?_, ?_, ?_⟩, ?_⟩
  · rw [dp_up_h (by decide), dp_row_ne (by decide), dp_row_ne (by decide), dp_row_ne (by decide), dp_row_at, pk_cpy_in (by omega) (by omega), ← h1 a ha]
    exact congrArg _ (by omega)
  · rw [dp_up_h (by decide), dp_row_ne (by decide), dp_row_ne (by decide), dp_row_at, pk_cpy_in (by omega) (by omega), ← (h2 c hc).1, dp_row_ne (by decide)]
    exact congrArg _ (by omega)
  · rw [dp_up_h (by decide), dp_row_ne (by decide), dp_row_at, pk_cpy_in (by omega) (by omega), ← (h2 c hc).2.1, dp_row_ne (by decide), dp_row_ne (by decide)]
    exact congrArg _ (by omega)
  · rw [dp_up_h (by decide), dp_row_at, pk_cpy_in (by omega) (by omega), ← (h2 c hc).2.2, dp_row_ne (by decide), dp_row_ne (by decide), dp_row_ne (by decide)]
    exact congrArg _ (by omega)
  · rw [dp_up_s, dp_row_ne (by decide), dp_row_ne (by decide), dp_row_ne (by decide), dp_row_ne (by decide)]
    exact h3
theorem Fr_cpf (M : dp_M) : Fr wL_f M (cpf M) := by
  intro h k e
  simp only [wL_f] at e
  unfold cpf
  by_cases e2 : h = 4
  · subst e2
    rw [dp_up_k (by omega), dp_row_ne (by decide), dp_row_ne (by decide), dp_row_ne (by decide), dp_row_ne (by decide)]
  · rw [dp_up_h e2, dp_row_ne (by omega), dp_row_ne (by omega), dp_row_ne (by omega), dp_row_ne (by omega)]
