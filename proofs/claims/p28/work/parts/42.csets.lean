/-! The class's memory behind each change. -/
theorem CG_to0 {M : dp_M} {s : GSt} (h : CG M s) : CG0 M s := by
  obtain ⟨h0, h1, h2, h3, h4, h5, h6, h7, h8, h9, h10, h11, h12, h13⟩ := h
  refine ⟨h0, h1, h2, h3, h4, h5, h6, h7, fun a x e1 e2 e3 => ?_, h10, h11, h12, h13⟩
  rw [h8 a x e2 e3]
  unfold tm
  rw [h1 a e1 e2]
  rfl
theorem C_setSt {M : dp_M} {s : GSt} (h : CG M s) {a b : Nat} (ha : a < 40) (hb : b < 20) : CG0 (dp_up M 6 a (nI b)) (setSt s a b) := by
  obtain ⟨⟨w1, w2, w3, w4, w5, w6, w7⟩, h1, h2, h3, h4, h5, h6, h7, h8, h9, h10, h11, h12⟩ := CG_to0 h
  refine ⟨⟨w1, w2, fun w hw => ?_, w4, w5, w6, w7⟩, h1, h2, ?_, ?_, fun w hw => ?_, fun a ha => ?_, fun a k ha hk => ?_, fun a x e1 e2 e3 => ?_, fun c hc => ?_, fun c k hc hk => ?_, fun c hc => ?_, fun c e1 e2 => ?_⟩
  · show (if w = a then b else _) < 20
    split
    · exact hb
    · exact w3 w hw
  · (repeat (first | rw [dp_up_h (by omega)] | rw [dp_up_k (by omega)])); exact h3
  · (repeat (first | rw [dp_up_h (by omega)] | rw [dp_up_k (by omega)])); exact h4
  · show _ = nI (if w = a then b else _)
    by_cases e : w = a
    · subst e
      rw [dp_up_s, if_pos rfl]
    · rw [if_neg e]; (repeat (first | rw [dp_up_h (by omega)] | rw [dp_up_k (by omega)])); exact h5 w hw
  · (repeat (first | rw [dp_up_h (by omega)] | rw [dp_up_k (by omega)])); exact h6 a ha
  · (repeat (first | rw [dp_up_h (by omega)] | rw [dp_up_k (by omega)])); exact h7 a k ha hk
  · (repeat (first | rw [dp_up_h (by omega)] | rw [dp_up_k (by omega)])); exact h8 a x e1 e2 e3
  · (repeat (first | rw [dp_up_h (by omega)] | rw [dp_up_k (by omega)])); exact h9 c hc
  · (repeat (first | rw [dp_up_h (by omega)] | rw [dp_up_k (by omega)])); exact h10 c k hc hk
  · (repeat (first | rw [dp_up_h (by omega)] | rw [dp_up_k (by omega)])); exact h11 c hc
  · (repeat (first | rw [dp_up_h (by omega)] | rw [dp_up_k (by omega)])); exact h12 c e1 e2
theorem C_prt {M : dp_M} {s : GSt} (h : CG M s) (hb : g_nA s < 16) : CG (dp_up M 1 5 (nI (g_nA s + 1))) (prt s) := by
  obtain ⟨⟨w1, w2, w3, w4, w5, w6, w7⟩, h1, h2, h3, h4, h5, h6, h7, h8, h9, h10, h11, h12, h13⟩ := h
  refine ⟨⟨hb, w2, w3, w4, w5, w6, w7⟩, fun a e1 e2 => h1 a (Nat.le_of_succ_le e1) e2, h2, ?_, ?_, fun w hw => ?_, fun a ha => ?_, fun a k ha hk => ?_, fun a x e1 e2 => ?_, fun x hx => ?_, fun c hc => ?_, fun c k hc hk => ?_, fun c hc => ?_, fun c e1 e2 => ?_⟩
  · exact dp_up_s _ _ _ _
  · (repeat (first | rw [dp_up_h (by omega)] | rw [dp_up_k (by omega)])); exact h4
  · (repeat (first | rw [dp_up_h (by omega)] | rw [dp_up_k (by omega)])); exact h5 w hw
  · (repeat (first | rw [dp_up_h (by omega)] | rw [dp_up_k (by omega)])); exact h6 a ha
  · (repeat (first | rw [dp_up_h (by omega)] | rw [dp_up_k (by omega)])); exact h7 a k ha hk
  · (repeat (first | rw [dp_up_h (by omega)] | rw [dp_up_k (by omega)])); exact h8 a x e1 e2
  · (repeat (first | rw [dp_up_h (by omega)] | rw [dp_up_k (by omega)])); rw [h9 x hx]
    refine congrArg nI ?_
    show cnt (g_nA s) _ = cnt (g_nA s + 1) _
    refine (cnt_f ?_).symm
    have : tm s (g_nA s) x = 0 := by
      unfold tm
      rw [h1 _ (Nat.le_refl _) hb]
      rfl
    show decide (0 < tm s (g_nA s) x) = false
    rw [this]
    rfl
  · (repeat (first | rw [dp_up_h (by omega)] | rw [dp_up_k (by omega)])); exact h10 c hc
  · (repeat (first | rw [dp_up_h (by omega)] | rw [dp_up_k (by omega)])); exact h11 c k hc hk
  · (repeat (first | rw [dp_up_h (by omega)] | rw [dp_up_k (by omega)])); exact h12 c hc
  · (repeat (first | rw [dp_up_h (by omega)] | rw [dp_up_k (by omega)])); exact h13 c e1 e2
theorem C_wrt {M : dp_M} {s : GSt} (h : CG M s) {a w : Nat} (ha : a < g_nA s) (hw : w < 40) (hl : g_len s a < 12) : CG0 (dp_up (dp_up M (27 + a) (g_len s a) (nI w)) 8 a (nI (g_len s a + 1))) (wrt s a w) := by
  obtain ⟨⟨w1, w2, w3, w4, w5, w6, w7⟩, h1, h2, h3, h4, h5, h6, h7, h8, h9, h10, h11, h12⟩ := CG_to0 h
  refine ⟨⟨w1, w2, w3, fun b hb => ?_, fun b k hb hk => ?_, w6, w7⟩, fun b e1 e2 => ?_, h2, ?_, ?_, fun w hw => ?_, fun b hb => ?_, fun b k hb hk => ?_, fun b x e1 e2 e3 => ?_, fun c hc => ?_, fun c k hc hk => ?_, fun c hc => ?_, fun c e1 e2 => ?_⟩
  · show (if b = a then g_len s a + 1 else g_len s b) ≤ 12
    split
    · omega
    · exact w4 b hb
  · have hk : k < (if b = a then g_len s a + 1 else g_len s b) := hk
    show (if b = a ∧ k = g_len s a then w else g_wd s b k) < 40
    split
    · exact hw
    · rename_i e
      refine w5 b k hb ?_
      split at hk
      · subst_vars; omega
      · exact hk
  · have e1 : g_nA s ≤ b := e1
    show (if b = a then g_len s a + 1 else g_len s b) = 0
    rw [if_neg (by omega)]
    exact h1 b e1 e2
  · (repeat (first | rw [dp_up_h (by omega)] | rw [dp_up_k (by omega)])); exact h3
  · (repeat (first | rw [dp_up_h (by omega)] | rw [dp_up_k (by omega)])); exact h4
  · (repeat (first | rw [dp_up_h (by omega)] | rw [dp_up_k (by omega)])); exact h5 w hw
  · show _ = nI (if b = a then g_len s a + 1 else g_len s b)
    by_cases e : b = a
    · subst e
      rw [if_pos rfl]
      exact dp_up_s _ _ _ _
    · rw [if_neg e]; (repeat (first | rw [dp_up_h (by omega)] | rw [dp_up_k (by omega)])); exact h6 b hb
  · have hk : k < (if b = a then g_len s a + 1 else g_len s b) := hk
    show _ = nI (if b = a ∧ k = g_len s a then w else g_wd s b k)
    by_cases e : b = a
    · subst e
      rw [if_pos rfl] at hk
      rw [dp_up_h (by omega)]
      by_cases e2 : k = g_len s b
      · subst e2
        rw [if_pos ⟨rfl, rfl⟩]
        exact dp_up_s _ _ _ _
      · rw [if_neg (fun z => e2 z.2)]; (repeat (first | rw [dp_up_h (by omega)] | rw [dp_up_k (by omega)])); exact h7 b k hb (by omega)
    · rw [if_neg e] at hk
      rw [if_neg (fun z => e z.1)]; (repeat (first | rw [dp_up_h (by omega)] | rw [dp_up_k (by omega)])); exact h7 b k hb hk
  · (repeat (first | rw [dp_up_h (by omega)] | rw [dp_up_k (by omega)])); exact h8 b x e1 e2 e3
  · (repeat (first | rw [dp_up_h (by omega)] | rw [dp_up_k (by omega)])); exact h9 c hc
  · (repeat (first | rw [dp_up_h (by omega)] | rw [dp_up_k (by omega)])); exact h10 c k hc hk
  · (repeat (first | rw [dp_up_h (by omega)] | rw [dp_up_k (by omega)])); exact h11 c hc
  · (repeat (first | rw [dp_up_h (by omega)] | rw [dp_up_k (by omega)])); exact h12 c e1 e2
theorem C_stk {M M1 : dp_M} {s : GSt} (h : CG M s) {a p : Nat} (ha : a < g_nA s) (hp : p < g_len s a) (g1 : ∀ k, k + 1 < g_len s a → M1 (27 + a) k = if p ≤ k then M (27 + a) (k + 1) else M (27 + a) k) (g2 : ∀ b k, b ≠ 27 + a → M1 b k = M b k) : CG0 (dp_up M1 8 a (nI (g_len s a - 1))) (stk s a p) := by
  obtain ⟨⟨w1, w2, w3, w4, w5, w6, w7⟩, h1, h2, h3, h4, h5, h6, h7, h8, h9, h10, h11, h12⟩ := CG_to0 h
  refine ⟨⟨w1, w2, w3, fun b hb => ?_, fun b k hb hk => ?_, w6, w7⟩, fun b e1 e2 => ?_, h2, ?_, ?_, fun w hw => ?_, fun b hb => ?_, fun b k hb hk => ?_, fun b x e1 e2 e3 => ?_, fun c hc => ?_, fun c k hc hk => ?_, fun c hc => ?_, fun c e1 e2 => ?_⟩
  · show (if b = a then g_len s a - 1 else g_len s b) ≤ 12
    have := w4 a (by omega)
    split
    · omega
    · exact w4 b hb
  · have hk : k < (if b = a then g_len s a - 1 else g_len s b) := hk
    show (if b = a ∧ p ≤ k then g_wd s b (k + 1) else g_wd s b k) < 40
    by_cases e : b = a
    · subst e
      rw [if_pos rfl] at hk
      split
      · exact w5 b (k + 1) hb (by omega)
      · exact w5 b k hb (by omega)
    · rw [if_neg e] at hk
      rw [if_neg (fun z => e z.1)]
      exact w5 b k hb hk
  · have e1 : g_nA s ≤ b := e1
    show (if b = a then g_len s a - 1 else g_len s b) = 0
    rw [if_neg (by omega)]
    exact h1 b e1 e2
  · rw [dp_up_h (by omega), g2 _ _ (by omega)]; exact h3
  · rw [dp_up_h (by omega), g2 _ _ (by omega)]; exact h4
  · rw [dp_up_h (by omega), g2 _ _ (by omega)]; exact h5 w hw
  · show _ = nI (if b = a then g_len s a - 1 else g_len s b)
    by_cases e : b = a
    · subst e
      rw [if_pos rfl]
      exact dp_up_s _ _ _ _
    · rw [if_neg e, dp_up_k e, g2 _ _ (by omega)]; exact h6 b hb
  · have hk : k < (if b = a then g_len s a - 1 else g_len s b) := hk
    show _ = nI (if b = a ∧ p ≤ k then g_wd s b (k + 1) else g_wd s b k)
    rw [dp_up_h (by omega)]
    by_cases e : b = a
    · subst e
      rw [if_pos rfl] at hk
      rw [g1 k (by omega)]
      by_cases e2 : p ≤ k
      · rw [if_pos e2, if_pos ⟨rfl, e2⟩]
        exact h7 b (k + 1) hb (by omega)
      · rw [if_neg e2, if_neg (fun z => e2 z.2)]
        exact h7 b k hb (by omega)
    · rw [if_neg e] at hk
      rw [if_neg (fun z => e z.1), g2 _ _ (by omega)]
      exact h7 b k hb hk
  · rw [dp_up_h (by omega), g2 _ _ (by omega)]; exact h8 b x e1 e2 e3
  · rw [dp_up_h (by omega), g2 _ _ (by omega)]; exact h9 c hc
  · rw [dp_up_h (by omega), g2 _ _ (by omega)]; exact h10 c k hc hk
  · rw [dp_up_h (by omega), g2 _ _ (by omega)]; exact h11 c hc
  · rw [dp_up_h (by omega), g2 _ _ (by omega)]; exact h12 c e1 e2
theorem C_cli {M : dp_M} {s : GSt} (h : CG M s) (hb : g_nC s < 6) {x : Int32} {k : Nat} : CG (dp_up (dp_up M 15 k x) 2 3 (nI (g_nC s + 1))) (cli s) := by
  obtain ⟨⟨w1, w2, w3, w4, w5, w6, w7⟩, h1, h2, h3, h4, h5, h6, h7, h8, h9, h10, h11, h12, h13⟩ := h
  refine ⟨⟨w1, hb, w3, w4, w5, w6, w7⟩, h1, fun c e1 e2 => h2 c (Nat.le_of_succ_le e1) e2, ?_, ?_, fun w hw => ?_, fun a ha => ?_, fun a k ha hk => ?_, fun a x e1 e2 => ?_, fun x hx => ?_, fun c hc => ?_, fun c k hc hk => ?_, fun c hc => ?_, fun c e1 e2 => ?_⟩
  · (repeat (first | rw [dp_up_h (by omega)] | rw [dp_up_k (by omega)])); exact h3
  · exact dp_up_s _ _ _ _
  · (repeat (first | rw [dp_up_h (by omega)] | rw [dp_up_k (by omega)])); exact h5 w hw
  · (repeat (first | rw [dp_up_h (by omega)] | rw [dp_up_k (by omega)])); exact h6 a ha
  · (repeat (first | rw [dp_up_h (by omega)] | rw [dp_up_k (by omega)])); exact h7 a k ha hk
  · (repeat (first | rw [dp_up_h (by omega)] | rw [dp_up_k (by omega)])); exact h8 a x e1 e2
  · (repeat (first | rw [dp_up_h (by omega)] | rw [dp_up_k (by omega)])); exact h9 x hx
  · (repeat (first | rw [dp_up_h (by omega)] | rw [dp_up_k (by omega)])); exact h10 c hc
  · (repeat (first | rw [dp_up_h (by omega)] | rw [dp_up_k (by omega)])); exact h11 c k hc hk
  · have hc : c < g_nC s + 1 := hc
    show _ = (if c = g_nC s then nI 20 else g_bar s c)
    by_cases e : c = g_nC s
    · rw [if_pos e]; (repeat (first | rw [dp_up_h (by omega)] | rw [dp_up_k (by omega)])); exact h13 c (by omega) (by omega)
    · rw [if_neg e]; (repeat (first | rw [dp_up_h (by omega)] | rw [dp_up_k (by omega)])); exact h12 c (by omega)
  · have e1 : g_nC s + 1 ≤ c := e1
    (repeat (first | rw [dp_up_h (by omega)] | rw [dp_up_k (by omega)])); exact h13 c (by omega) e2
theorem CL_setC {M : dp_M} {l : LSt} (h : CLn M l) {c : Nat} {x : Int32} : CLn (dp_up M 15 c x) (setC l c x) := by
  obtain ⟨hW, h1, h2, h3⟩ := h
  refine ⟨hW, fun a ha => ?_, fun k hk => ⟨?_, ?_, ?_⟩, ?_⟩
  · (repeat (first | rw [dp_up_h (by omega)] | rw [dp_up_k (by omega)])); exact h1 a ha
  · show _ = (if k = c then x else l_coin l k)
    by_cases e : k = c
    · subst e
      rw [if_pos rfl]
      exact dp_up_s _ _ _ _
    · rw [if_neg e]; (repeat (first | rw [dp_up_h (by omega)] | rw [dp_up_k (by omega)])); exact (h2 k hk).1
  · (repeat (first | rw [dp_up_h (by omega)] | rw [dp_up_k (by omega)])); exact (h2 k hk).2.1
  · (repeat (first | rw [dp_up_h (by omega)] | rw [dp_up_k (by omega)])); exact (h2 k hk).2.2
  · (repeat (first | rw [dp_up_h (by omega)] | rw [dp_up_k (by omega)])); exact h3
theorem C_coin {M : dp_M} {s : GSt} (h : CG M s) {c : Nat} {x : Int32} : CG (dp_up M 15 c x) s := h.congr (fun h k e => dp_up_h (by omega))
theorem CL_up {M : dp_M} {l : LSt} (hL : CLn M l) {h k : Nat} {x : Int32} (e : ¬ wL_n h k) : CLn (dp_up M h k x) l := CL_n_congr (fun a j e2 => by
  by_cases e3 : a = h ∧ j = k
  · obtain ⟨rfl, rfl⟩ := e3
    exact absurd e2 e
  · simp [dp_up, e3]) hL
theorem C_adds {M : dp_M} {s : GSt} (h : CG M s) {c x : Nat} (hc : c < g_nC s) (hx : x < 20) (hm : g_many s c < 5) : CG (dp_up (dp_up M (59 + c) (g_many s c) (nI x)) 12 c (nI (g_many s c + 1))) (adds s c x) := by
  obtain ⟨⟨w1, w2, w3, w4, w5, w6, w7⟩, h1, h2, h3, h4, h5, h6, h7, h8, h9, h10, h11, h12, h13⟩ := h
  refine ⟨⟨w1, w2, w3, w4, w5, fun k hk => ?_, fun k i hk hi => ?_⟩, h1, fun k e1 e2 => ?_, ?_, ?_, fun w hw => ?_, fun a ha => ?_, fun a k ha hk => ?_, fun a x e1 e2 => ?_, fun x hx => ?_, fun k hk => ?_, fun k i hk hi => ?_, fun c hc => ?_, fun c e1 e2 => ?_⟩
  · show (if k = c then _ else _) ≤ 5
    split
    · omega
    · exact w6 k hk
  · show (if k = c ∧ i = g_many s c then x else g_wish s k i) < 20
    split
    · exact hx
    · rename_i e
      refine w7 k i hk ?_
      have hi : i < (if k = c then g_many s c + 1 else g_many s k) := hi
      split at hi
      · subst_vars
        omega
      · exact hi
  · have e1 : g_nC s ≤ k := e1
    show (if k = c then _ else _) = 0
    rw [if_neg (by omega)]
    exact h2 k e1 e2
  · (repeat (first | rw [dp_up_h (by omega)] | rw [dp_up_k (by omega)])); exact h3
  · (repeat (first | rw [dp_up_h (by omega)] | rw [dp_up_k (by omega)])); exact h4
  · (repeat (first | rw [dp_up_h (by omega)] | rw [dp_up_k (by omega)])); exact h5 w hw
  · (repeat (first | rw [dp_up_h (by omega)] | rw [dp_up_k (by omega)])); exact h6 a ha
  · (repeat (first | rw [dp_up_h (by omega)] | rw [dp_up_k (by omega)])); exact h7 a k ha hk
  · (repeat (first | rw [dp_up_h (by omega)] | rw [dp_up_k (by omega)])); exact h8 a x e1 e2
  · (repeat (first | rw [dp_up_h (by omega)] | rw [dp_up_k (by omega)])); exact h9 x hx
  · show _ = nI (if k = c then _ else _)
    by_cases e : k = c
    · subst e
      rw [if_pos rfl]
      exact dp_up_s _ _ _ _
    · rw [if_neg e]; (repeat (first | rw [dp_up_h (by omega)] | rw [dp_up_k (by omega)])); exact h10 k hk
  · have hi : i < (if k = c then g_many s c + 1 else g_many s k) := hi
    show _ = nI (if k = c ∧ i = g_many s c then x else g_wish s k i)
    by_cases e : k = c
    · subst e
      rw [if_pos rfl] at hi
      rw [dp_up_h (by omega)]
      by_cases e2 : i = g_many s k
      · subst e2
        rw [if_pos ⟨rfl, rfl⟩]
        exact dp_up_s _ _ _ _
      · rw [if_neg (fun z => e2 z.2)]; (repeat (first | rw [dp_up_h (by omega)] | rw [dp_up_k (by omega)])); exact h11 k i hk (by omega)
    · rw [if_neg e] at hi
      rw [if_neg (fun z => e z.1)]; (repeat (first | rw [dp_up_h (by omega)] | rw [dp_up_k (by omega)])); exact h11 k i hk hi
  · (repeat (first | rw [dp_up_h (by omega)] | rw [dp_up_k (by omega)])); exact h12 c hc
  · (repeat (first | rw [dp_up_h (by omega)] | rw [dp_up_k (by omega)])); exact h13 c e1 e2
theorem C_drp {M M1 : dp_M} {s : GSt} (h : CG M s) {c p : Nat} (hc : c < g_nC s) (hp : p < g_many s c) (g1 : ∀ k, k + 1 < g_many s c → M1 (59 + c) k = if p ≤ k then M (59 + c) (k + 1) else M (59 + c) k) (g2 : ∀ b k, b ≠ 59 + c → M1 b k = M b k) : CG (dp_up M1 12 c (nI (g_many s c - 1))) (drp s c p) := by
  obtain ⟨⟨w1, w2, w3, w4, w5, w6, w7⟩, h1, h2, h3, h4, h5, h6, h7, h8, h9, h10, h11, h12, h13⟩ := h
  refine ⟨⟨w1, w2, w3, w4, w5, fun k hk => ?_, fun k i hk hi => ?_⟩, h1, fun k e1 e2 => ?_, ?_, ?_, fun w hw => ?_, fun a ha => ?_, fun a k ha hk => ?_, fun a x e1 e2 => ?_, fun x hx => ?_, fun k hk => ?_, fun k i hk hi => ?_, fun c hc => ?_, fun c e1 e2 => ?_⟩
  · show (if k = c then g_many s c - 1 else g_many s k) ≤ 5
    have := w6 c (by omega)
    split
    · omega
    · exact w6 k hk
  · have hi : i < (if k = c then g_many s c - 1 else g_many s k) := hi
    show (if k = c ∧ p ≤ i then g_wish s k (i + 1) else g_wish s k i) < 20
    by_cases e : k = c
    · subst e
      rw [if_pos rfl] at hi
      split
      · exact w7 k (i + 1) hk (by omega)
      · exact w7 k i hk (by omega)
    · rw [if_neg e] at hi
      rw [if_neg (fun z => e z.1)]
      exact w7 k i hk hi
  · have e1 : g_nC s ≤ k := e1
    show (if k = c then _ else _) = 0
    rw [if_neg (by omega)]
    exact h2 k e1 e2
  · rw [dp_up_h (by omega), g2 _ _ (by omega)]; exact h3
  · rw [dp_up_h (by omega), g2 _ _ (by omega)]; exact h4
  · rw [dp_up_h (by omega), g2 _ _ (by omega)]; exact h5 w hw
  · rw [dp_up_h (by omega), g2 _ _ (by omega)]; exact h6 a ha
  · rw [dp_up_h (by omega), g2 _ _ (by omega)]; exact h7 a k ha hk
  · rw [dp_up_h (by omega), g2 _ _ (by omega)]; exact h8 a x e1 e2
  · rw [dp_up_h (by omega), g2 _ _ (by omega)]; exact h9 x hx
  · show _ = nI (if k = c then g_many s c - 1 else g_many s k)
    by_cases e : k = c
    · subst e
      rw [if_pos rfl]
      exact dp_up_s _ _ _ _
    · rw [if_neg e, dp_up_k e, g2 _ _ (by omega)]; exact h10 k hk
  · have hi : i < (if k = c then g_many s c - 1 else g_many s k) := hi
    show _ = nI (if k = c ∧ p ≤ i then g_wish s k (i + 1) else g_wish s k i)
    rw [dp_up_h (by omega)]
    by_cases e : k = c
    · subst e
      rw [if_pos rfl] at hi
      rw [g1 i (by omega)]
      by_cases e2 : p ≤ i
      · rw [if_pos e2, if_pos ⟨rfl, e2⟩]
        exact h11 k (i + 1) hk (by omega)
      · rw [if_neg e2, if_neg (fun z => e2 z.2)]
        exact h11 k i hk (by omega)
    · rw [if_neg e] at hi
      rw [if_neg (fun z => e z.1), g2 _ _ (by omega)]
      exact h11 k i hk hi
  · rw [dp_up_h (by omega), g2 _ _ (by omega)]; exact h12 c hc
  · rw [dp_up_h (by omega), g2 _ _ (by omega)]; exact h13 c e1 e2
theorem C_setB {M : dp_M} {s : GSt} (h : CG M s) {c : Nat} {x : Int32} (hc : c < g_nC s) : CG (dp_up M 13 c x) (setB s c x) := by
  obtain ⟨⟨w1, w2, w3, w4, w5, w6, w7⟩, h1, h2, h3, h4, h5, h6, h7, h8, h9, h10, h11, h12, h13⟩ := h
  refine ⟨⟨w1, w2, w3, w4, w5, w6, w7⟩, h1, h2, ?_, ?_, fun w hw => ?_, fun a ha => ?_, fun a k ha hk => ?_, fun a x e1 e2 => ?_, fun x hx => ?_, fun c hc => ?_, fun c k hc hk => ?_, fun k hk => ?_, fun k e1 e2 => ?_⟩
  · (repeat (first | rw [dp_up_h (by omega)] | rw [dp_up_k (by omega)])); exact h3
  · (repeat (first | rw [dp_up_h (by omega)] | rw [dp_up_k (by omega)])); exact h4
  · (repeat (first | rw [dp_up_h (by omega)] | rw [dp_up_k (by omega)])); exact h5 w hw
  · (repeat (first | rw [dp_up_h (by omega)] | rw [dp_up_k (by omega)])); exact h6 a ha
  · (repeat (first | rw [dp_up_h (by omega)] | rw [dp_up_k (by omega)])); exact h7 a k ha hk
  · (repeat (first | rw [dp_up_h (by omega)] | rw [dp_up_k (by omega)])); exact h8 a x e1 e2
  · (repeat (first | rw [dp_up_h (by omega)] | rw [dp_up_k (by omega)])); exact h9 x hx
  · (repeat (first | rw [dp_up_h (by omega)] | rw [dp_up_k (by omega)])); exact h10 c hc
  · (repeat (first | rw [dp_up_h (by omega)] | rw [dp_up_k (by omega)])); exact h11 c k hc hk
  · show _ = (if k = c then x else g_bar s k)
    by_cases e : k = c
    · subst e
      rw [if_pos rfl]
      exact dp_up_s _ _ _ _
    · rw [if_neg e]; (repeat (first | rw [dp_up_h (by omega)] | rw [dp_up_k (by omega)])); exact h12 k hk
  · have e1 : g_nC s ≤ k := e1
    (repeat (first | rw [dp_up_h (by omega)] | rw [dp_up_k (by omega)])); exact h13 k e1 e2
theorem mn_min {x : Int32} : (if nI 9999 < x then nI 9999 else x) = mn (nI 9999) x := by
  unfold mn
  by_cases h : x < nI 9999
  · rw [if_pos h, if_neg (fun z => Int32.lt_irrefl (Int32.lt_trans h z))]
  · rw [if_neg h]
    by_cases h2 : nI 9999 < x
    · rw [if_pos h2]
    · rw [if_neg h2]
      exact Int32.le_antisymm (Int32.not_lt.mp h2) (Int32.not_lt.mp h)
theorem Fr.tC {M M' : dp_M} (h : Fr wT M M') : Fr wC M M' := fun a k e => h a k (fun z => e (by simp only [wT] at z; simp only [wC]; omega))
theorem CL.frT {M M' : dp_M} {l : LSt} (hF : Fr wT M M') (h : CLn M l) : CLn M' l := CL_n_congr (fun h k e => hF h k (fun z => by simp only [wT] at z; simp only [wL_n] at e; omega)) h
