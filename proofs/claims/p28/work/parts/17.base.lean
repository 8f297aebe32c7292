/-! Truth values as ints, indexes, and the bureau's state as numbers. -/
def bl (b : Bool) : Int32 := if b then nI 1 else nI 0
theorem bl_t : bl true = nI 1 := rfl
theorem bl_f : bl false = nI 0 := rfl
theorem bl_01 (b : Bool) : bl b = 0 ∨ bl b = 1 := by cases b <;> decide
section KB
variable {X : dp_X} {call : dp_C} {d y : Nat} {Q : dp_Q} {K : dp_K} {pc n c q : Nat} {L : dp_L} {st : List Value} {M : dp_M} {o : dp_O}
theorem kb_eq (hK : dp_clo X call d y Q K) {b : Bool} {off : Int} {len t : Nat} (hi : dp_tab y pc = (.ifCond .eq off, len)) (ht : dp_jt pc off = t) (h1 : b = false → K t L st n c q M o) (h2 : b = true → K (pc + 3) L st n c q M o) : K pc L (.int (bl b) :: st) n c q M o :=
  k_if_eq hK hi ht (fun z => h1 (by cases b <;> first | rfl | (exfalso; revert z; decide))) (fun z => h2 (by cases b <;> first | rfl | (exfalso; exact z (by decide))))
theorem kb_ne (hK : dp_clo X call d y Q K) {b : Bool} {off : Int} {len t : Nat} (hi : dp_tab y pc = (.ifCond .ne off, len)) (ht : dp_jt pc off = t) (h1 : b = false → K (pc + 3) L st n c q M o) (h2 : b = true → K t L st n c q M o) : K pc L (.int (bl b) :: st) n c q M o :=
  k_if_ne hK hi ht (fun z => h1 (by cases b <;> first | rfl | (exfalso; revert z; decide))) (fun z => h2 (by cases b <;> first | rfl | (exfalso; exact z (by decide))))
end KB
def isin (v lo hi : Int32) : Bool := !decide (v < lo) && !decide (hi < v)
/-- the number that an int is, if it is below n -/
def ix (n : Nat) (x : Int32) : Option Nat := if ¬ x < 0 ∧ x < nI n then some x.toNatClampNeg else none
theorem ix_some {n a : Nat} {x : Int32} (h : ix n x = some a) (hn : n < 2 ^ 31) : a < n ∧ x = nI a := by
  unfold ix at h
  split at h
  · rename_i hc
    cases h
    obtain ⟨j, hj, rfl⟩ := nI_of hc.1
    rw [nI_clamp hj]
    exact ⟨(nI_ltI hj hn).mp hc.2, rfl⟩
  · cases h
theorem ix_nI {n a : Nat} (h : a < n) (hn : n < 2 ^ 31) : ix n (nI a) = some a := by
  unfold ix
  rw [if_pos ⟨nI_pos (by omega), nI_lt h hn⟩, nI_clamp (by omega)]
theorem ix_none {n : Nat} {x : Int32} (h : ix n x = none) : x < 0 ∨ ¬ x < nI n := by
  unfold ix at h
  split at h
  · cases h
  · rename_i hc
    by_cases h1 : x < 0
    · exact Or.inl h1
    · exact Or.inr (fun h2 => hc ⟨h1, h2⟩)
theorem ix_is {n : Nat} {x : Int32} (h1 : ¬ x < 0) (h2 : x < nI n) : ix n x = some x.toNatClampNeg := if_pos ⟨h1, h2⟩
theorem ix_neg {n : Nat} {x : Int32} (h1 : x < 0) : ix n x = none := if_neg (fun z => z.1 h1)
theorem ix_big {n : Nat} {x : Int32} (h1 : ¬ x < nI n) : ix n x = none := if_neg (fun z => h1 z.2)
theorem nI_pred' {n : Nat} (x : Int32) (hn : n < 2 ^ 31) (h : ¬ x < 0) : nI n - nI 1 < x ↔ ¬ x < nI n := by
  obtain ⟨j, hj, rfl⟩ := nI_of h
  cases n with
  | zero =>
    constructor
    · intro _
      exact nI_nlt (Nat.zero_le _) hj
    · intro _
      have : (nI 0 - nI 1 : Int32) < 0 := by decide
      exact Int32.lt_of_lt_of_le this (nI_pos' hj)
  | succ n =>
    rw [show nI (n + 1) - nI 1 = nI n from pk_sub (by omega), nI_ltI (by omega) hj, nI_ltI hj hn]
    omega
theorem isin_ix {n : Nat} {x : Int32} (hn : n < 2 ^ 31) : isin x (nI 0) (nI n - nI 1) = (ix n x).isSome := by
  unfold isin
  by_cases h1 : x < 0
  · rw [ix_neg h1, show nI 0 = 0 from nI_0]
    simp [h1]
  · by_cases h2 : x < nI n
    · rw [ix_is h1 h2, show nI 0 = 0 from nI_0]
      have : ¬ nI n - nI 1 < x := fun z => ((nI_pred' x hn h1).mp z) h2
      simp [h1, this]
    · rw [ix_big h2, show nI 0 = 0 from nI_0]
      have : nI n - nI 1 < x := (nI_pred' x hn h1).mpr h2
      simp [h1, this]
theorem isin_ixc {n m : Nat} {x : Int32} (h : nI n - nI 1 = nI m) (hn : n < 2 ^ 31) : isin x (nI 0) (nI m) = (ix n x).isSome := by rw [← h, isin_ix hn]
