/-! What changes the class's memory: counting anew, ledgers. -/
/-- all but what is counted -/
def CG0 (M : dp_M) (s : GSt) : Prop := GW s ∧ (∀ a, g_nA s ≤ a → a < 16 → g_len s a = 0) ∧ (∀ c, g_nC s ≤ c → c < 6 → g_many s c = 0) ∧ M 1 5 = nI (g_nA s) ∧ M 2 3 = nI (g_nC s) ∧ (∀ w, w < 40 → M 6 w = nI (g_st s w)) ∧ (∀ a, a < 16 → M 8 a = nI (g_len s a)) ∧ (∀ a k, a < 16 → k < g_len s a → M (27 + a) k = nI (g_wd s a k)) ∧ (∀ a x, g_nA s ≤ a → a < 16 → x < 20 → M (43 + a) x = nI 0) ∧ (∀ c, c < 6 → M 12 c = nI (g_many s c)) ∧ (∀ c k, c < 6 → k < g_many s c → M (59 + c) k = nI (g_wish s c k)) ∧ (∀ c, c < g_nC s → M 13 c = g_bar s c) ∧ (∀ c, g_nC s ≤ c → c < 6 → M 13 c = nI 20)
/-- what counting writes -/
def wT (h _k : Nat) : Prop := h = 10 ∨ (43 ≤ h ∧ h < 59)
theorem CG0.fr {M M' : dp_M} {s : GSt} (hF : Fr wT M M') (hz : ∀ a x, g_nA s ≤ a → a < 16 → x < 20 → M' (43 + a) x = M (43 + a) x) (h : CG0 M s) : CG0 M' s := by
  obtain ⟨h0, h1, h2, h3, h4, h5, h6, h7, h8, h9, h10, h11, h12⟩ := h
  refine ⟨h0, h1, h2, (hF _ _ ?_).trans h3, (hF _ _ ?_).trans h4, fun w hw => (hF _ _ ?_).trans (h5 w hw), fun a ha => (hF _ _ ?_).trans (h6 a ha), fun a k ha hk => (hF _ _ ?_).trans (h7 a k ha hk), fun a x h1 h2 h3 => (hz a x h1 h2 h3).trans (h8 a x h1 h2 h3), fun c hc => (hF _ _ ?_).trans (h9 c hc), fun c k hc hk => (hF _ _ ?_).trans (h10 c k hc hk), fun c hc => (hF _ _ ?_).trans (h11 c hc), fun c h1 h2 => (hF _ _ ?_).trans (h12 c h1 h2)⟩
  all_goals (intro e; simp only [wT] at e; omega)
theorem CG0.full {M : dp_M} {s : GSt} (h : CG0 M s) (ht : ∀ a x, a < g_nA s → x < 20 → M (43 + a) x = nI (tm s a x)) (hh : ∀ x, x < 20 → M 10 x = nI (hvn s x)) : CG M s := by
  obtain ⟨h0, h1, h2, h3, h4, h5, h6, h7, h8, h9, h10, h11, h12⟩ := h
  refine ⟨h0, h1, h2, h3, h4, h5, h6, h7, fun a x ha hx => ?_, hh, h9, h10, h11, h12⟩
  by_cases e : a < g_nA s
  · exact ht a x e hx
  · rw [h8 a x (by omega) ha hx]
    unfold tm
    rw [h1 a (by omega) ha]
    rfl
section CG0A
variable {M : dp_M} {s : GSt}
theorem CG0.st (h : CG0 M s) (w : Nat) (hw : w < 40) : M 6 w = nI (g_st s w) := h.2.2.2.2.2.1 w hw
theorem CG0.len (h : CG0 M s) (a : Nat) (ha : a < 16) : M 8 a = nI (g_len s a) := h.2.2.2.2.2.2.1 a ha
theorem CG0.wd (h : CG0 M s) (a k : Nat) (ha : a < 16) (hk : k < g_len s a) : M (27 + a) k = nI (g_wd s a k) := h.2.2.2.2.2.2.2.1 a k ha hk
theorem CG0.nA (h : CG0 M s) : M 1 5 = nI (g_nA s) := h.2.2.2.1
end CG0A
/-- the first i words' stems -/
def tmi (s : GSt) (a x i : Nat) : Nat := cnt i (fun k => g_st s (g_wd s a k) == x)
theorem tmi_t {s : GSt} {a i x : Nat} (h : g_st s (g_wd s a i) = x) : tmi s a x (i + 1) = tmi s a x i + 1 := cnt_t (by simp [h])
theorem tmi_f {s : GSt} {a i x : Nat} (h : ¬ g_st s (g_wd s a i) = x) : tmi s a x (i + 1) = tmi s a x i := cnt_f (by simp [h])
def hvi (s : GSt) (x i : Nat) : Nat := cnt i (fun a => decide (0 < tm s a x))
theorem hvi_t {s : GSt} {i x : Nat} (h : 0 < tm s i x) : hvi s x (i + 1) = hvi s x i + 1 := cnt_t (by simp [h])
theorem hvi_f {s : GSt} {i x : Nat} (h : ¬ 0 < tm s i x) : hvi s x (i + 1) = hvi s x i := cnt_f (by simp [h])
