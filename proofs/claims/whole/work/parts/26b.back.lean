/-! Memory brought back, a stem tried. -/
theorem RG.congr {M M' : dp_M} {s : GSt} (hF : ∀ h k, 22 ≤ h → h ≤ 25 → (h = 24 → k < 224) → (h = 25 → k < 60) → (h = 22 → k ≠ 0) → M' h k = M h k) (h : RG M s) : RG M' s := by
  obtain ⟨hW, h1, h2, h3, h4, h5, h6, h7, h8⟩ := h
  refine ⟨hW, (hF _ _ ?_ ?_ ?_ ?_ ?_).trans h1, (hF _ _ ?_ ?_ ?_ ?_ ?_).trans h2, fun w hw => (hF _ _ ?_ ?_ ?_ ?_ ?_).trans (h3 w hw), fun a ha => (hF _ _ ?_ ?_ ?_ ?_ ?_).trans (h4 a ha), fun a k ha hk => (hF _ _ ?_ ?_ ?_ ?_ ?_).trans (h5 a k ha hk), fun c hc => (hF _ _ ?_ ?_ ?_ ?_ ?_).trans (h6 c hc), fun c k hc hk => (hF _ _ ?_ ?_ ?_ ?_ ?_).trans (h7 c k hc hk), fun c hc => (hF _ _ ?_ ?_ ?_ ?_ ?_).trans (h8 c hc)⟩
  all_goals first
    | omega
    | (have := hW.2.2.2.1 _ ‹_›; omega)
    | (have := hW.2.2.2.2.2.1 _ ‹_›; omega)
    | (have := hW.2.1; omega)
theorem RLt.congr {M M' : dp_M} {l : LSt} (hF : ∀ h k, 22 ≤ h → h ≤ 25 → (h = 24 → k < 224) → (h = 25 → k < 60) → (h = 22 → k ≠ 0) → M' h k = M h k) (h : RLt M l) : RLt M' l := by
  obtain ⟨hW, h1, h2, h3⟩ := h
  refine ⟨hW, fun a ha => (hF _ _ ?_ ?_ ?_ ?_ ?_).trans (h1 a ha), fun c hc => ⟨(hF _ _ ?_ ?_ ?_ ?_ ?_).trans (h2 c hc).1, (hF _ _ ?_ ?_ ?_ ?_ ?_).trans (h2 c hc).2.1, (hF _ _ ?_ ?_ ?_ ?_ ?_).trans (h2 c hc).2.2⟩, (hF _ _ ?_ ?_ ?_ ?_ ?_).trans h3⟩
  all_goals omega
/-- the clones -/
def cln (M : dp_M) : dp_M := dp_row (dp_row M 65 (M 24)) 66 (dp_row M 65 (M 24) 25)
theorem cln_h {M : dp_M} {h k : Nat} (h1 : h < 65) : cln M h k = M h k := by
  unfold cln
  rw [dp_row_ne (by omega), dp_row_ne (by omega)]
theorem cln_65 {M : dp_M} {k : Nat} : cln M 65 k = M 24 k := by
  unfold cln
  rw [dp_row_ne (by decide), dp_row_at]
theorem cln_66 {M : dp_M} {k : Nat} : cln M 66 k = M 25 k := by
  unfold cln
  rw [dp_row_at, dp_row_ne (by decide)]
/-- what bringBack leaves -/
def bbk (M : dp_M) (x : Int32) : dp_M := dp_up (dp_row (dp_row M 24 (va_cpy (M 65) (M 24) 0 0 224)) 25 (va_cpy (dp_row M 24 (va_cpy (M 65) (M 24) 0 0 224) 66) (dp_row M 24 (va_cpy (M 65) (M 24) 0 0 224) 25) 0 0 60)) 22 3 x
theorem bbk_24 {M : dp_M} {x : Int32} {k : Nat} (hk : k < 224) : bbk M x 24 k = M 65 k := by
  unfold bbk
  rw [dp_up_h (by decide), dp_row_ne (by decide), dp_row_at, pk_cpy_in (by omega) (by omega)]
  exact congrArg _ (by omega)
theorem bbk_25 {M : dp_M} {x : Int32} {k : Nat} (hk : k < 60) : bbk M x 25 k = M 66 k := by
  unfold bbk
  rw [dp_up_h (by decide), dp_row_at, pk_cpy_in (by omega) (by omega), dp_row_ne (by decide)]
  exact congrArg _ (by omega)
theorem bbk_h {M : dp_M} {x : Int32} {h k : Nat} (h1 : h ≠ 24) (h2 : h ≠ 25) (h3 : h = 22 → k ≠ 3) : bbk M x h k = M h k := by
  unfold bbk
  by_cases e : h = 22
  · subst e
    rw [dp_up_k (h3 rfl), dp_row_ne h2, dp_row_ne h1]
  · rw [dp_up_h e, dp_row_ne h2, dp_row_ne h1]
theorem bbk_r {M : dp_M} {x : Int32} : bbk M x 22 3 = x := dp_up_s _ _ _ _
theorem RA_back {M M1 M2 : dp_M} {s : GSt} {l : LSt} {r : Int32} (hF : Fr wR M M1) (hG : RG M1 s) (hL : RLt M1 l) (h0 : M1 22 0 = nI 0) (hF1 : Fr wL (cln M1) M2) : RA M (bbk M2 (l_rnd l)) (ok r s l) := by
  have key : ∀ h k, 22 ≤ h → h ≤ 25 → (h = 24 → k < 224) → (h = 25 → k < 60) → bbk M2 (l_rnd l) h k = M1 h k := by
    intro h k a1 a2 a3 a4
    by_cases e : h = 24
    · subst e
      rw [bbk_24 (a3 rfl), hF1 65 k (by simp [wL]), cln_65]
    by_cases e2 : h = 25
    · subst e2
      rw [bbk_25 (a4 rfl), hF1 66 k (by simp [wL]), cln_66]
    by_cases e3 : h = 22 ∧ k = 3
    · obtain ⟨rfl, rfl⟩ := e3
      rw [bbk_r, hL.2.2.2]
    · rw [bbk_h e e2 (by omega), hF1 h k (fun z => by simp only [wL] at z; omega), cln_h (by omega)]
  refine ⟨?_, hG.congr (fun h k a1 a2 a3 a4 _ => key h k a1 a2 a3 a4), hL.congr (fun h k a1 a2 a3 a4 _ => key h k a1 a2 a3 a4), (key 22 0 (by decide) (by decide) (by decide) (by decide)).trans h0⟩
  intro h k e
  simp only [wR] at e
  rw [bbk_h (by omega) (by omega) (by omega), hF1 h k (fun z => by simp only [wL] at z; omega), cln_h (by omega)]
  exact hF h k (by simp only [wR]; omega)
theorem RG_cln {M : dp_M} {s : GSt} (h : RG M s) : RG (cln M) s := h.congr (fun h k _ _ _ _ _ => cln_h (by omega))
theorem RLt_cln {M : dp_M} {l : LSt} (h : RLt M l) : RLt (cln M) l := h.congr (fun h k _ _ _ _ _ => cln_h (by omega))
/-- a stem tried -/
theorem RG_adds {M : dp_M} {s : GSt} {c x : Nat} (h : RG M s) (hc : c < 6) (hx : x < 20) (hm : g_many s c < 5) : RG (dp_up (dp_up M 25 (10 * c + (5 + g_many s c)) (nI x)) 25 (10 * c + 1) (nI (g_many s c + 1))) (adds s c x) := by
  obtain ⟨hW, h1, h2, h3, h4, h5, h6, h7, h8⟩ := h
  obtain ⟨w1, w2, w3, w4, w5, w6, w7⟩ := hW
  refine ⟨⟨w1, w2, w3, w4, w5, ?_, ?_⟩, ?_, ?_, ?_, ?_, ?_, ?_, ?_, ?_⟩
  · intro k hk
    show (if k = c then _ else _) ≤ 5
    split
    · omega
    · exact w6 k hk
  · intro k i hk hi
    show (if k = c ∧ i = g_many s c then x else g_wish s k i) < 20
    split
    · exact hx
    · rename_i e
      refine w7 k i hk ?_
      have hi : i < (if k = c then g_many s c + 1 else g_many s k) := hi
      split at hi
      · subst_vars
        omega
      · exact hi
  · rw [dp_up_h (by decide), dp_up_h (by decide)]; exact h1
  · rw [dp_up_h (by decide), dp_up_h (by decide)]; exact h2
  · intro w hw; rw [dp_up_h (by decide), dp_up_h (by decide)]; exact h3 w hw
  · intro a ha; rw [dp_up_h (by decide), dp_up_h (by decide)]; exact h4 a ha
  · intro a k ha hk; rw [dp_up_h (by decide), dp_up_h (by decide)]; exact h5 a k ha hk
  · intro k hk
    show _ = nI (if k = c then _ else _)
    by_cases e : k = c
    · subst e
      rw [dp_up_s, if_pos rfl]
    · rw [dp_up_k (by omega), dp_up_k (by omega), if_neg e]
      exact h6 k hk
  · intro k i hk hi
    have hi : i < (if k = c then g_many s c + 1 else g_many s k) := hi
    show _ = nI (if k = c ∧ i = g_many s c then x else g_wish s k i)
    have w66 := w6 k hk
    by_cases e : k = c
    · subst e
      rw [if_pos rfl] at hi
      rw [dp_up_k (by omega)]
      by_cases e2 : i = g_many s k
      · subst e2
        rw [dp_up_s, if_pos ⟨rfl, rfl⟩]
      · rw [dp_up_k (by omega), if_neg (fun z => e2 z.2)]
        exact h7 k i hk (by omega)
    · rw [if_neg e] at hi
      rw [dp_up_k (by omega), dp_up_k (by omega), if_neg (fun z => e z.1)]
      exact h7 k i hk hi
  · intro k hk
    have hk : k < g_nC s := hk
    rw [dp_up_k (by omega), dp_up_k (by omega)]
    exact h8 k hk
theorem RLt_adds {M : dp_M} {l : LSt} {c i : Nat} {x y : Int32} (h : RLt M l) (hc : c < 6) (hm : i < 5) : RLt (dp_up (dp_up M 25 (10 * c + (5 + i)) x) 25 (10 * c + 1) y) l := by
  obtain ⟨hW, h1, h2, h3⟩ := h
  refine ⟨hW, fun a ha => ?_, fun k hk => ⟨?_, ?_, ?_⟩, ?_⟩
  · rw [dp_up_h (by decide), dp_up_h (by decide)]; exact h1 a ha
  · rw [dp_up_k (by omega), dp_up_k (by omega)]; exact (h2 k hk).1
  · rw [dp_up_k (by omega), dp_up_k (by omega)]; exact (h2 k hk).2.1
  · rw [dp_up_k (by omega), dp_up_k (by omega)]; exact (h2 k hk).2.2
  · rw [dp_up_h (by decide), dp_up_h (by decide)]; exact h3
theorem RG_unadds {M : dp_M} {s : GSt} {c x : Nat} (h : RG M (adds s c x)) (hW : GW s) (hc : c < 6) (hm : g_many s c < 5) : RG (dp_up M 25 (10 * c + 1) (nI (g_many s c))) s := by
  obtain ⟨-, h1, h2, h3, h4, h5, h6, h7, h8⟩ := h
  have w6 := hW.2.2.2.2.2.1
  refine ⟨hW, ?_, ?_, ?_, ?_, ?_, ?_, ?_, ?_⟩
  · rw [dp_up_h (by decide)]; exact h1
  · rw [dp_up_h (by decide)]; exact h2
  · intro w hw; rw [dp_up_h (by decide)]; exact h3 w hw
  · intro a ha; rw [dp_up_h (by decide)]; exact h4 a ha
  · intro a k ha hk; rw [dp_up_h (by decide)]; exact h5 a k ha hk
  · intro k hk
    by_cases e : k = c
    · subst e
      rw [dp_up_s]
    · rw [dp_up_k (by omega), h6 k hk]
      exact congrArg nI (if_neg e)
  · intro k i hk hi
    have w66 := w6 k hk
    rw [dp_up_k (by omega), h7 k i hk (by show i < (if k = c then _ else _); split <;> (subst_vars; omega))]
    have e2 : ¬ (k = c ∧ i = g_many s c) := by intro z; obtain ⟨z1, z2⟩ := z; subst z1; omega
    exact congrArg nI (if_neg e2)
  · intro k hk
    have hk : k < g_nC s := hk
    rw [dp_up_k (by omega)]
    exact h8 k hk
theorem RLt_unadds {M : dp_M} {l : LSt} {c : Nat} {y : Int32} (h : RLt M l) (hc : c < 6) : RLt (dp_up M 25 (10 * c + 1) y) l := by
  obtain ⟨hW, h1, h2, h3⟩ := h
  refine ⟨hW, fun a ha => ?_, fun k hk => ⟨?_, ?_, ?_⟩, ?_⟩
  · rw [dp_up_h (by decide)]; exact h1 a ha
  · rw [dp_up_k (by omega)]; exact (h2 k hk).1
  · rw [dp_up_k (by omega)]; exact (h2 k hk).2.1
  · rw [dp_up_k (by omega)]; exact (h2 k hk).2.2
  · rw [dp_up_h (by decide)]; exact h3
theorem adv_t {s : GSt} {l : LSt} {c i : Nat} (h : (adv s l c i).2 < tp s l c i) : adv s l c (i + 1) = (nI i, tp s l c i) := by rw [adv, if_pos h]
theorem adv_f {s : GSt} {l : LSt} {c i : Nat} (h : ¬ (adv s l c i).2 < tp s l c i) : adv s l c (i + 1) = adv s l c i := by rw [adv, if_neg h]
theorem tp_w {s : GSt} {l : LSt} {c x p : Nat} (h : wsh s c x = some p) : tp s l c x = -1 := by unfold tp; rw [h]
theorem tp_n {s : GSt} {l : LSt} {c x : Nat} (h : wsh s c x = none) (h2 : fA (adds s c x) l c 0 = none) : tp s l c x = -1 := by unfold tp; rw [h]; simp only [h2]
theorem tp_s {s : GSt} {l : LSt} {c x a : Nat} (h : wsh s c x = none) (h2 : fA (adds s c x) l c 0 = some a) : tp s l c x = sc (adds s c x) l c a := by unfold tp; rw [h]; simp only [h2]
