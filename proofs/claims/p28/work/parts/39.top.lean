/-! A stem tried in the class; its checks. -/
theorem top_w {M : dp_M} {s : GSt} {c x : Nat} (hC : CG M s) (hc : c < 6) (hx : x < 20) (hm : g_many s c < 5) : ∀ i, i < g_many s c + 1 → (dp_up (dp_row M 5 (va_cpy (M (59 + c)) (M 5) 0 0 (g_many s c))) 5 (g_many s c) (nI x)) 5 i = nI (g_wish (adds s c x) c i) ∧ g_wish (adds s c x) c i < 20 := by
  intro i hi
  show _ = nI (if c = c ∧ i = g_many s c then x else g_wish s c i) ∧ (if c = c ∧ i = g_many s c then x else g_wish s c i) < 20
  by_cases e : i = g_many s c
  · subst e
    rw [dp_up_s, if_pos ⟨rfl, rfl⟩]
    exact ⟨rfl, hx⟩
  · rw [dp_up_k e, dp_row_at, pk_cpy_in (by omega) (by omega), if_neg (fun z => e z.2)]
    refine ⟨?_, hC.w.2.2.2.2.2.2 c i hc (by omega)⟩
    rw [← hC.wish c i hc (by omega)]
    exact congrArg _ (by omega)
theorem Fr5 {M : dp_M} {f : Nat → Int32} {k : Nat} {x : Int32} : Fr w5 M (dp_up (dp_row M 5 f) 5 k x) := by
  intro a j e
  have e : a ≠ 5 := e
  rw [dp_up_h e, dp_row_ne e]
theorem CG.fr5 {M M' : dp_M} {s : GSt} (hF : Fr w5 M M') (h : CG M s) : CG M' s := h.congr (fun h k e => hF h k (fun z => by simp only [w5] at z; omega))
theorem CL.fr5 {M M' : dp_M} {l : LSt} (hF : Fr w5 M M') (h : CLn M l) : CLn M' l := CL_n_congr (fun h k e => hF h k (fun z => by simp only [w5] at z; simp only [wL_n] at e; omega)) h
theorem CL.frf {M M' : dp_M} {l : LSt} (hF : Fr wL_f M M') (h : CLn M l) : CLn M' l := CL_n_congr (fun h k e => hF h k (fun z => by simp only [wL_f] at z; simp only [wL_n] at e; omega)) h
theorem bf_max {s : GSt} {l : LSt} {c i : Nat} (h : fit s l c i = true) : (if (bf s l c i).2 < sc s l c i then sc s l c i else (bf s l c i).2) = (bf s l c (i + 1)).2 := by
  rw [bf]
  by_cases e : (bf s l c i).2 < sc s l c i
  · rw [if_pos e, if_pos ⟨e, h⟩]
  · rw [if_neg e, if_neg (fun z => e z.1)]
theorem bf_no {s : GSt} {l : LSt} {c i : Nat} (h : fit s l c i = false) : bf s l c (i + 1) = bf s l c i := by rw [bf, if_neg (fun z => by rw [h] at z; exact absurd z.2 (by decide))]
theorem Fr.n {M M' : dp_M} (h : Fr wL_n M M') : Fr wC M M' := fun a k e => h a k (fun z => e (by simp only [wL_n] at z; simp only [wC]; omega))
theorem Fr.f {M M' : dp_M} (h : Fr wL_f M M') : Fr wC M M' := fun a k e => h a k (fun z => e (by simp only [wL_f] at z; simp only [wC]; omega))
theorem Fr.c {M M' : dp_M} (h : Fr w5 M M') : Fr wC M M' := fun a k e => h a k (fun z => e (by simp only [w5] at z; simp only [wC]; omega))
