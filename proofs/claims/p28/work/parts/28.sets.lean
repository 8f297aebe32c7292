/-! A row of the memory set. -/
theorem Fr.row {S : Nat → Nat → Prop} {M M' : dp_M} {h : Nat} {f : Nat → Int32} (h1 : Fr S M M') (e : ∀ {k}, S h k) : Fr S M (dp_row M' h f) := by
  intro a j n
  by_cases e2 : a = h
  · subst e2
    exact absurd e n
  · rw [dp_row_ne e2]
    exact h1 a j n
