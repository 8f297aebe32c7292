/-! The reference's memory behind each change. -/
theorem RLt_c2 {M M' : dp_M} {l : LSt} (h1 : ∀ a, a < 16 → M' 24 (14 * a + 1) = M 24 (14 * a + 1)) (h2 : ∀ c, c < 6 → M' 25 (10 * c) = M 25 (10 * c) ∧ M' 25 (10 * c + 3) = M 25 (10 * c + 3) ∧ M' 25 (10 * c + 4) = M 25 (10 * c + 4)) (h3 : M' 22 3 = M 22 3) (h : RLt M l) : RLt M' l :=
  ⟨h.1, fun a ha => (h1 a ha).trans (h.2.1 a ha), fun c hc => ⟨(h2 c hc).1.trans (h.2.2.1 c hc).1, (h2 c hc).2.1.trans (h.2.2.1 c hc).2.1, (h2 c hc).2.2.trans (h.2.2.1 c hc).2.2⟩, h3.trans h.2.2.2⟩
theorem RG_setSt {M : dp_M} {s : GSt} (h : RG M s) {a b : Nat} (hb : b < 20) : RG (dp_up M 23 a (nI b)) (setSt s a b) := by
  obtain ⟨⟨w1, w2, w3, w4, w5, w6, w7⟩, h1, h2, h3, h4, h5, h6, h7, h8⟩ := h
  refine ⟨⟨w1, w2, fun w hw => ?_, w4, w5, w6, w7⟩, ?_, ?_, fun w hw => ?_, fun a ha => ?_, fun a k ha hk => ?_, fun c hc => ?_, fun c k hc hk => ?_, fun c hc => ?_⟩
  · show (if w = a then b else _) < 20
    split
    · exact hb
    · exact w3 w hw
  · (repeat (first | rw [dp_up_h (by decide)] | rw [dp_up_k (by omega)] | rw [dp_row_ne (by decide)])); exact h1
  · (repeat (first | rw [dp_up_h (by decide)] | rw [dp_up_k (by omega)] | rw [dp_row_ne (by decide)])); exact h2
  · show _ = nI (if w = a then b else _)
    by_cases e : w = a
    · subst e
      rw [dp_up_s, if_pos rfl]
    · rw [if_neg e]; (repeat (first | rw [dp_up_h (by decide)] | rw [dp_up_k (by omega)] | rw [dp_row_ne (by decide)])); exact h3 w hw
  · (repeat (first | rw [dp_up_h (by decide)] | rw [dp_up_k (by omega)] | rw [dp_row_ne (by decide)])); exact h4 a ha
  · (repeat (first | rw [dp_up_h (by decide)] | rw [dp_up_k (by omega)] | rw [dp_row_ne (by decide)])); exact h5 a k ha hk
  · (repeat (first | rw [dp_up_h (by decide)] | rw [dp_up_k (by omega)] | rw [dp_row_ne (by decide)])); exact h6 c hc
  · (repeat (first | rw [dp_up_h (by decide)] | rw [dp_up_k (by omega)] | rw [dp_row_ne (by decide)])); exact h7 c k hc hk
  · (repeat (first | rw [dp_up_h (by decide)] | rw [dp_up_k (by omega)] | rw [dp_row_ne (by decide)])); exact h8 c hc
theorem RG_prt {M : dp_M} {s : GSt} (h : RG M s) (hb : g_nA s < 16) : RG (dp_up M 22 1 (nI (g_nA s + 1))) (prt s) := by
  obtain ⟨⟨w1, w2, w3, w4, w5, w6, w7⟩, h1, h2, h3, h4, h5, h6, h7, h8⟩ := h
  refine ⟨⟨hb, w2, w3, w4, w5, w6, w7⟩, ?_, ?_, fun w hw => ?_, fun a ha => ?_, fun a k ha hk => ?_, fun c hc => ?_, fun c k hc hk => ?_, fun c hc => ?_⟩
  · exact dp_up_s _ _ _ _
  · (repeat (first | rw [dp_up_h (by decide)] | rw [dp_up_k (by omega)] | rw [dp_row_ne (by decide)])); exact h2
  · (repeat (first | rw [dp_up_h (by decide)] | rw [dp_up_k (by omega)] | rw [dp_row_ne (by decide)])); exact h3 w hw
  · (repeat (first | rw [dp_up_h (by decide)] | rw [dp_up_k (by omega)] | rw [dp_row_ne (by decide)])); exact h4 a ha
  · (repeat (first | rw [dp_up_h (by decide)] | rw [dp_up_k (by omega)] | rw [dp_row_ne (by decide)])); exact h5 a k ha hk
  · (repeat (first | rw [dp_up_h (by decide)] | rw [dp_up_k (by omega)] | rw [dp_row_ne (by decide)])); exact h6 c hc
  · (repeat (first | rw [dp_up_h (by decide)] | rw [dp_up_k (by omega)] | rw [dp_row_ne (by decide)])); exact h7 c k hc hk
  · (repeat (first | rw [dp_up_h (by decide)] | rw [dp_up_k (by omega)] | rw [dp_row_ne (by decide)])); exact h8 c hc
theorem RG_wrt {M : dp_M} {s : GSt} (h : RG M s) {a w : Nat} (ha : a < 16) (hw : w < 40) (hl : g_len s a < 12) : RG (dp_up (dp_up M 24 (14 * a + 2 + g_len s a) (nI w)) 24 (14 * a + 0) (nI (g_len s a + 1))) (wrt s a w) := by
  obtain ⟨⟨w1, w2, w3, w4, w5, w6, w7⟩, h1, h2, h3, h4, h5, h6, h7, h8⟩ := h
  refine ⟨⟨w1, w2, w3, fun b hb => ?_, fun b k hb hk => ?_, w6, w7⟩, ?_, ?_, fun w hw => ?_, fun b hb => ?_, fun b k hb hk => ?_, fun c hc => ?_, fun c k hc hk => ?_, fun c hc => ?_⟩
  · show (if b = a then g_len s a + 1 else g_len s b) ≤ 12
    split
    · omega
    · exact w4 b hb
  · have hk : k < (if b = a then g_len s a + 1 else g_len s b) := hk
    show (if b = a ∧ k = g_len s a then w else g_wd s b k) < 40
    split
    · exact hw
    · rename_i e
      refine w5 b k hb ?_
      split at hk
      · subst_vars; omega
      · exact hk
  · (repeat (first | rw [dp_up_h (by decide)] | rw [dp_up_k (by omega)] | rw [dp_row_ne (by decide)])); exact h1
  · (repeat (first | rw [dp_up_h (by decide)] | rw [dp_up_k (by omega)] | rw [dp_row_ne (by decide)])); exact h2
  · (repeat (first | rw [dp_up_h (by decide)] | rw [dp_up_k (by omega)] | rw [dp_row_ne (by decide)])); exact h3 w hw
  · show _ = nI (if b = a then g_len s a + 1 else g_len s b)
    by_cases e : b = a
    · subst e
      rw [if_pos rfl]
      exact dp_up_s _ _ _ _
    · rw [if_neg e]; (repeat (first | rw [dp_up_h (by decide)] | rw [dp_up_k (by omega)] | rw [dp_row_ne (by decide)])); exact h4 b hb
  · have hk : k < (if b = a then g_len s a + 1 else g_len s b) := hk
    show _ = nI (if b = a ∧ k = g_len s a then w else g_wd s b k)
    have w44 := w4 b hb
    by_cases e : b = a
    · subst e
      rw [if_pos rfl] at hk
      rw [dp_up_k (by omega)]
      by_cases e2 : k = g_len s b
      · subst e2
        rw [if_pos ⟨rfl, rfl⟩, show 14 * b + (2 + g_len s b) = 14 * b + 2 + g_len s b by omega]
        exact dp_up_s _ _ _ _
      · rw [if_neg (fun z => e2 z.2)]; (repeat (first | rw [dp_up_h (by decide)] | rw [dp_up_k (by omega)] | rw [dp_row_ne (by decide)])); exact h5 b k hb (by omega)
    · rw [if_neg e] at hk
      rw [if_neg (fun z => e z.1)]; (repeat (first | rw [dp_up_h (by decide)] | rw [dp_up_k (by omega)] | rw [dp_row_ne (by decide)])); exact h5 b k hb hk
  · (repeat (first | rw [dp_up_h (by decide)] | rw [dp_up_k (by omega)] | rw [dp_row_ne (by decide)])); exact h6 c hc
  · (repeat (first | rw [dp_up_h (by decide)] | rw [dp_up_k (by omega)] | rw [dp_row_ne (by decide)])); exact h7 c k hc hk
  · (repeat (first | rw [dp_up_h (by decide)] | rw [dp_up_k (by omega)] | rw [dp_row_ne (by decide)])); exact h8 c hc
theorem RG_stk {M : dp_M} {s : GSt} (h : RG M s) {a p : Nat} (ha : a < 16) (hp : p < g_len s a) : RG (dp_up (dp_row M 24 (va_cpy (M 24) (M 24) (14 * a + 2 + p + 1) (14 * a + 2 + p) (g_len s a - 1 - p))) 24 (14 * a + 0) (nI (g_len s a - 1))) (stk s a p) := by
  obtain ⟨⟨w1, w2, w3, w4, w5, w6, w7⟩, h1, h2, h3, h4, h5, h6, h7, h8⟩ := h
  have w4a := w4 a ha
  refine ⟨⟨w1, w2, w3, fun b hb => ?_, fun b k hb hk => ?_, w6, w7⟩, ?_, ?_, fun w hw => ?_, fun b hb => ?_, fun b k hb hk => ?_, fun c hc => ?_, fun c k hc hk => ?_, fun c hc => ?_⟩
  · show (if b = a then g_len s a - 1 else g_len s b) ≤ 12
    split
    · omega
    · exact w4 b hb
  · have hk : k < (if b = a then g_len s a - 1 else g_len s b) := hk
    show (if b = a ∧ p ≤ k then g_wd s b (k + 1) else g_wd s b k) < 40
    by_cases e : b = a
    · subst e
      rw [if_pos rfl] at hk
      split
      · exact w5 b (k + 1) hb (by omega)
      · exact w5 b k hb (by omega)
    · rw [if_neg e] at hk
      rw [if_neg (fun z => e z.1)]
      exact w5 b k hb hk
  · (repeat (first | rw [dp_up_h (by decide)] | rw [dp_up_k (by omega)] | rw [dp_row_ne (by decide)])); exact h1
  · (repeat (first | rw [dp_up_h (by decide)] | rw [dp_up_k (by omega)] | rw [dp_row_ne (by decide)])); exact h2
  · (repeat (first | rw [dp_up_h (by decide)] | rw [dp_up_k (by omega)] | rw [dp_row_ne (by decide)])); exact h3 w hw
  · show _ = nI (if b = a then g_len s a - 1 else g_len s b)
    have w44 := w4 b hb
    by_cases e : b = a
    · subst e
      rw [if_pos rfl]
      exact dp_up_s _ _ _ _
    · rw [if_neg e, dp_up_k (by omega), dp_row_at, pk_cpy_out (by omega)]; exact h4 b hb
  · have hk : k < (if b = a then g_len s a - 1 else g_len s b) := hk
    show _ = nI (if b = a ∧ p ≤ k then g_wd s b (k + 1) else g_wd s b k)
    have w44 := w4 b hb
    by_cases e : b = a
    · subst e
      rw [if_pos rfl] at hk
      rw [dp_up_k (by omega), dp_row_at]
      by_cases e2 : p ≤ k
      · rw [pk_cpy_in (by omega) (by omega), if_pos ⟨rfl, e2⟩, ← h5 b (k + 1) hb (by omega)]
        exact congrArg _ (by omega)
      · rw [pk_cpy_out (by omega), if_neg (fun z => e2 z.2)]
        exact h5 b k hb (by omega)
    · rw [if_neg e] at hk
      rw [if_neg (fun z => e z.1), dp_up_k (by omega), dp_row_at, pk_cpy_out (by omega)]
      exact h5 b k hb hk
  · (repeat (first | rw [dp_up_h (by decide)] | rw [dp_up_k (by omega)] | rw [dp_row_ne (by decide)])); exact h6 c hc
  · (repeat (first | rw [dp_up_h (by decide)] | rw [dp_up_k (by omega)] | rw [dp_row_ne (by decide)])); exact h7 c k hc hk
  · (repeat (first | rw [dp_up_h (by decide)] | rw [dp_up_k (by omega)] | rw [dp_row_ne (by decide)])); exact h8 c hc
theorem RG_cli {M : dp_M} {s : GSt} (h : RG M s) (hb : g_nC s < 6) {x : Int32} : RG (dp_up (dp_up (dp_up M 25 (10 * g_nC s + 0) x) 25 (10 * g_nC s + 2) (nI 20)) 22 2 (nI (g_nC s + 1))) (cli s) := by
  obtain ⟨⟨w1, w2, w3, w4, w5, w6, w7⟩, h1, h2, h3, h4, h5, h6, h7, h8⟩ := h
  refine ⟨⟨w1, hb, w3, w4, w5, w6, w7⟩, ?_, ?_, fun w hw => ?_, fun a ha => ?_, fun a k ha hk => ?_, fun c hc => ?_, fun c k hc hk => ?_, fun c hc => ?_⟩
  · (repeat (first | rw [dp_up_h (by decide)] | rw [dp_up_k (by omega)] | rw [dp_row_ne (by decide)])); exact h1
  · exact dp_up_s _ _ _ _
  · (repeat (first | rw [dp_up_h (by decide)] | rw [dp_up_k (by omega)] | rw [dp_row_ne (by decide)])); exact h3 w hw
  · (repeat (first | rw [dp_up_h (by decide)] | rw [dp_up_k (by omega)] | rw [dp_row_ne (by decide)])); exact h4 a ha
  · (repeat (first | rw [dp_up_h (by decide)] | rw [dp_up_k (by omega)] | rw [dp_row_ne (by decide)])); exact h5 a k ha hk
  · (repeat (first | rw [dp_up_h (by decide)] | rw [dp_up_k (by omega)] | rw [dp_row_ne (by decide)])); exact h6 c hc
  · have := w6 c hc
    have hk : k < g_many s c := hk
    (repeat (first | rw [dp_up_h (by decide)] | rw [dp_up_k (by omega)] | rw [dp_row_ne (by decide)])); exact h7 c k hc hk
  · have hc : c < g_nC s + 1 := hc
    show _ = (if c = g_nC s then nI 20 else g_bar s c)
    by_cases e : c = g_nC s
    · rw [if_pos e, e, dp_up_h (by decide)]
      exact dp_up_s _ _ _ _
    · rw [if_neg e]; (repeat (first | rw [dp_up_h (by decide)] | rw [dp_up_k (by omega)] | rw [dp_row_ne (by decide)])); exact h8 c (by omega)
theorem RLt_setC {M : dp_M} {l : LSt} (h : RLt M l) {c : Nat} {x : Int32} : RLt (dp_up M 25 (10 * c + 0) x) (setC l c x) := by
  obtain ⟨hW, h1, h2, h3⟩ := h
  refine ⟨hW, fun a ha => ?_, fun k hk => ⟨?_, ?_, ?_⟩, ?_⟩
  · (repeat (first | rw [dp_up_h (by decide)] | rw [dp_up_k (by omega)] | rw [dp_row_ne (by decide)])); exact h1 a ha
  · show _ = (if k = c then x else l_coin l k)
    by_cases e : k = c
    · subst e
      rw [if_pos rfl]
      exact dp_up_s _ _ _ _
    · rw [if_neg e]; (repeat (first | rw [dp_up_h (by decide)] | rw [dp_up_k (by omega)] | rw [dp_row_ne (by decide)])); exact (h2 k hk).1
  · (repeat (first | rw [dp_up_h (by decide)] | rw [dp_up_k (by omega)] | rw [dp_row_ne (by decide)])); exact (h2 k hk).2.1
  · (repeat (first | rw [dp_up_h (by decide)] | rw [dp_up_k (by omega)] | rw [dp_row_ne (by decide)])); exact (h2 k hk).2.2
  · (repeat (first | rw [dp_up_h (by decide)] | rw [dp_up_k (by omega)] | rw [dp_row_ne (by decide)])); exact h3
theorem RG_coin {M : dp_M} {s : GSt} (h : RG M s) {c : Nat} {x : Int32} : RG (dp_up M 25 (10 * c + 0) x) s := (Fr.up (Fr.refl _ _) (wL_0 c) : Fr wL _ _).RG h
theorem RG_setB {M : dp_M} {s : GSt} (h : RG M s) {c : Nat} {x : Int32} (hc : c < 6) : RG (dp_up M 25 (10 * c + 2) x) (setB s c x) := by
  obtain ⟨⟨w1, w2, w3, w4, w5, w6, w7⟩, h1, h2, h3, h4, h5, h6, h7, h8⟩ := h
  refine ⟨⟨w1, w2, w3, w4, w5, w6, w7⟩, ?_, ?_, fun w hw => ?_, fun a ha => ?_, fun a k ha hk => ?_, fun c hc => ?_, fun c k hc hk => ?_, fun k hk => ?_⟩
  · (repeat (first | rw [dp_up_h (by decide)] | rw [dp_up_k (by omega)] | rw [dp_row_ne (by decide)])); exact h1
  · (repeat (first | rw [dp_up_h (by decide)] | rw [dp_up_k (by omega)] | rw [dp_row_ne (by decide)])); exact h2
  · (repeat (first | rw [dp_up_h (by decide)] | rw [dp_up_k (by omega)] | rw [dp_row_ne (by decide)])); exact h3 w hw
  · (repeat (first | rw [dp_up_h (by decide)] | rw [dp_up_k (by omega)] | rw [dp_row_ne (by decide)])); exact h4 a ha
  · (repeat (first | rw [dp_up_h (by decide)] | rw [dp_up_k (by omega)] | rw [dp_row_ne (by decide)])); exact h5 a k ha hk
  · (repeat (first | rw [dp_up_h (by decide)] | rw [dp_up_k (by omega)] | rw [dp_row_ne (by decide)])); exact h6 c hc
  · have := w6 c hc
    have hk : k < g_many s c := hk
    (repeat (first | rw [dp_up_h (by decide)] | rw [dp_up_k (by omega)] | rw [dp_row_ne (by decide)])); exact h7 c k hc hk
  · show _ = (if k = c then x else g_bar s k)
    by_cases e : k = c
    · subst e
      rw [if_pos rfl]
      exact dp_up_s _ _ _ _
    · rw [if_neg e]; (repeat (first | rw [dp_up_h (by decide)] | rw [dp_up_k (by omega)] | rw [dp_row_ne (by decide)])); exact h8 k hk
theorem RG_drp {M : dp_M} {s : GSt} (h : RG M s) {c p : Nat} (hc : c < 6) (hp : p < g_many s c) : RG (dp_up (dp_row M 25 (va_cpy (M 25) (M 25) (10 * c + 5 + p + 1) (10 * c + 5 + p) (g_many s c - 1 - p))) 25 (10 * c + 1) (nI (g_many s c - 1))) (drp s c p) := by
  obtain ⟨⟨w1, w2, w3, w4, w5, w6, w7⟩, h1, h2, h3, h4, h5, h6, h7, h8⟩ := h
  have w6c := w6 c hc
  refine ⟨⟨w1, w2, w3, w4, w5, fun k hk => ?_, fun k i hk hi => ?_⟩, ?_, ?_, fun w hw => ?_, fun a ha => ?_, fun a k ha hk => ?_, fun k hk => ?_, fun k i hk hi => ?_, fun k hk => ?_⟩
  · show (if k = c then g_many s c - 1 else g_many s k) ≤ 5
    split
    · omega
    · exact w6 k hk
  · have hi : i < (if k = c then g_many s c - 1 else g_many s k) := hi
    show (if k = c ∧ p ≤ i then g_wish s k (i + 1) else g_wish s k i) < 20
    by_cases e : k = c
    · subst e
      rw [if_pos rfl] at hi
      split
      · exact w7 k (i + 1) hk (by omega)
      · exact w7 k i hk (by omega)
    · rw [if_neg e] at hi
      rw [if_neg (fun z => e z.1)]
      exact w7 k i hk hi
  · (repeat (first | rw [dp_up_h (by decide)] | rw [dp_up_k (by omega)] | rw [dp_row_ne (by decide)])); exact h1
  · (repeat (first | rw [dp_up_h (by decide)] | rw [dp_up_k (by omega)] | rw [dp_row_ne (by decide)])); exact h2
  · (repeat (first | rw [dp_up_h (by decide)] | rw [dp_up_k (by omega)] | rw [dp_row_ne (by decide)])); exact h3 w hw
  · (repeat (first | rw [dp_up_h (by decide)] | rw [dp_up_k (by omega)] | rw [dp_row_ne (by decide)])); exact h4 a ha
  · (repeat (first | rw [dp_up_h (by decide)] | rw [dp_up_k (by omega)] | rw [dp_row_ne (by decide)])); exact h5 a k ha hk
  · show _ = nI (if k = c then g_many s c - 1 else g_many s k)
    have w66 := w6 k hk
    by_cases e : k = c
    · subst e
      rw [if_pos rfl]
      exact dp_up_s _ _ _ _
    · rw [if_neg e, dp_up_k (by omega), dp_row_at, pk_cpy_out (by omega)]; exact h6 k hk
  · have hi : i < (if k = c then g_many s c - 1 else g_many s k) := hi
    show _ = nI (if k = c ∧ p ≤ i then g_wish s k (i + 1) else g_wish s k i)
    have w66 := w6 k hk
    by_cases e : k = c
    · subst e
      rw [if_pos rfl] at hi
      rw [dp_up_k (by omega), dp_row_at]
      by_cases e2 : p ≤ i
      · rw [pk_cpy_in (by omega) (by omega), if_pos ⟨rfl, e2⟩, ← h7 k (i + 1) hk (by omega)]
        exact congrArg _ (by omega)
      · rw [pk_cpy_out (by omega), if_neg (fun z => e2 z.2)]
        exact h7 k i hk (by omega)
    · rw [if_neg e] at hi
      rw [if_neg (fun z => e z.1), dp_up_k (by omega), dp_row_at, pk_cpy_out (by omega)]
      exact h7 k i hk hi
  · have hk : k < g_nC s := hk
    rw [dp_up_k (by omega), dp_row_at, pk_cpy_out (by omega)]
    exact h8 k hk
theorem Fr.row {S : Nat → Nat → Prop} {M M' : dp_M} {h : Nat} {f : Nat → Int32} (h1 : Fr S M M') (e : ∀ {k}, S h k) : Fr S M (dp_row M' h f) := by
  intro a j n
  by_cases e2 : a = h
  · subst e2
    exact absurd e n
  · rw [dp_row_ne e2]
    exact h1 a j n
theorem RLt_stk {M : dp_M} {l : LSt} (hL : RLt M l) {a n p : Nat} {x : Int32} (ha : a < 16) (hp : p < n) (hn : n ≤ 12) : RLt (dp_up (dp_row M 24 (va_cpy (M 24) (M 24) (14 * a + 2 + p + 1) (14 * a + 2 + p) (n - 1 - p))) 24 (14 * a + 0) x) l := by
  refine RLt_c2 (fun b hb => ?_) (fun c hc => ⟨?_, ?_, ?_⟩) ?_ hL
  · rw [dp_up_k (by omega), dp_row_at, pk_cpy_out (by omega)]
  · rw [dp_up_h (by decide), dp_row_ne (by decide)]
  · rw [dp_up_h (by decide), dp_row_ne (by decide)]
  · rw [dp_up_h (by decide), dp_row_ne (by decide)]
  · rw [dp_up_h (by decide), dp_row_ne (by decide)]
theorem RLt_drp {M : dp_M} {l : LSt} (hL : RLt M l) {a n p : Nat} {x : Int32} (ha : a < 6) (hp : p < n) (hn : n ≤ 5) : RLt (dp_up (dp_row M 25 (va_cpy (M 25) (M 25) (10 * a + 5 + p + 1) (10 * a + 5 + p) (n - 1 - p))) 25 (10 * a + 1) x) l := by
  refine RLt_c2 (fun b hb => ?_) (fun c hc => ⟨?_, ?_, ?_⟩) ?_ hL
  · rw [dp_up_h (by decide), dp_row_ne (by decide)]
  · rw [dp_up_k (by omega), dp_row_at, pk_cpy_out (by omega)]
  · rw [dp_up_k (by omega), dp_row_at, pk_cpy_out (by omega)]
  · rw [dp_up_k (by omega), dp_row_at, pk_cpy_out (by omega)]
  · rw [dp_up_h (by decide), dp_row_ne (by decide)]
theorem fol_0 (f : Nat → Int64 → Int64) (d : Int64) : fol 0 f d = d := rfl
theorem fol_S (n : Nat) (f : Nat → Int64 → Int64) (d : Int64) : fol (n + 1) f d = f n (fol n f d) := rfl
theorem fol_m {n : Nat} {f : Nat → Int64 → Int64} {d : Int64} {x : Int32} (h : ∀ d, f n d = mxx d x) : fol n f d * 31 + x.toInt64 = fol (n + 1) f d := by rw [fol_S, h]; rfl
theorem k_laddv {X : dp_X} {call : dp_C} {d y : Nat} {Q : dp_Q} {K : dp_K} {pc n c q : Nat} {L : dp_L} {st : List Value} {M : dp_M} {o : Int64} (hK : dp_clo X call d y Q K) {a b z : Int64} {len : Nat} (hi : dp_tab y pc = (.ladd, len)) (hz : a + b = z) (hh : K (pc + 1) L (.long z :: st) n c q M o) : K pc L (.long b :: .long a :: st) n c q M o := k_ladd hK hi (by subst hz; exact hh)
theorem lcj_144 : dp_lo dp_cl 4 144 = some 1451 := rfl
theorem lcj_146 : dp_lo dp_cl 4 146 = some 31 := rfl
theorem lcj_183 : dp_lo dp_cl 3 183 = some 1451 := rfl
theorem lcj_195 : dp_lo dp_cl 3 195 = some 31 := rfl
theorem dgA_u (s : GSt) (l : LSt) (a : Nat) (d : Int64) : dgA s l a d = fol (g_len s a) (fun k d => mxx d (nI (g_wd s a k))) (fol 4 (fun w d => mxx d (aT s l a w)) d) := rfl
theorem dgC_u (s : GSt) (l : LSt) (c : Nat) (d : Int64) : dgC s l c d = fol (g_nA s) (fun a d => mxx d (sc s l c a)) (fol (g_many s c) (fun k d => mxx d (nI (g_wish s c k))) (fol 6 (fun w d => mxx d (cT s l c w)) d)) := rfl
