/-! The best of a row, and what is fit as a row. -/
/-- what is fit, by its score; -1 for the others -/
def FT (s : GSt) (l : LSt) (c a : Nat) : Int32 := if fit s l c a then sc s l c a else -1
/-- the best of the places m - k .. m - 1, the first of those that are alike -/
def bst (v : Nat → Int32) (m : Nat) : Nat → Option Nat
  | 0 => none
  | k + 1 => match bst v m k with
    | none => if v (m - k - 1) < 0 then none else some (m - k - 1)
    | some b => if v (m - k - 1) < 0 then some b else if v (m - k - 1) < v b then some b else some (m - k - 1)
theorem bst_inv (v : Nat → Int32) (m : Nat) : ∀ k, k ≤ m → (∀ b, bst v m k = some b → m - k ≤ b ∧ b < m ∧ ¬ v b < 0 ∧ (∀ j, m - k ≤ j → j < m → ¬ v j < 0 → ¬ v b < v j) ∧ ∀ j, m - k ≤ j → j < b → ¬ v j < 0 → v j < v b) ∧ (bst v m k = none → ∀ j, m - k ≤ j → j < m → v j < 0)
  | 0, _ => ⟨fun b h => (by cases h), fun _ j h1 h2 => by omega⟩
  | k + 1, hk => by
    obtain ⟨i1, i2⟩ := bst_inv v m k (by omega)
    have key : ∀ j, m - (k + 1) ≤ j → j < m → j = m - k - 1 ∨ m - k ≤ j := fun j h1 h2 => by omega
    have e0 : bst v m (k + 1) = (match bst v m k with
      | none => if v (m - k - 1) < 0 then none else some (m - k - 1)
      | some b => if v (m - k - 1) < 0 then some b else if v (m - k - 1) < v b then some b else some (m - k - 1)) := rfl
    rw [e0]
    cases hb : bst v m k with
    | none =>
      have i2 := i2 hb
      by_cases h : v (m - k - 1) < 0
      · simp only [if_pos h]
        refine ⟨fun b h => (by cases h), fun _ j h1 h2 => ?_⟩
        rcases key j h1 h2 with rfl | h3
        · exact h
        · exact i2 j h3 h2
      · simp only [if_neg h]
        refine ⟨fun b hb2 => ?_, fun h => by cases h⟩
        cases hb2
        refine ⟨by omega, by omega, h, fun j h1 h2 h3 => ?_, fun j h1 h2 h3 => by omega⟩
        rcases key j h1 h2 with rfl | h4
        · exact Int32.lt_irrefl
        · exact absurd (i2 j h4 h2) h3
    | some b =>
      obtain ⟨j1, j2, j3, j4, j5⟩ := i1 b hb
      by_cases h : v (m - k - 1) < 0
      · simp only [if_pos h]
        refine ⟨fun b2 hb2 => ?_, fun h => by cases h⟩
        cases hb2
        refine ⟨by omega, j2, j3, fun j h1 h2 h3 => ?_, fun j h1 h2 h3 => ?_⟩
        · rcases key j h1 h2 with rfl | h4
          · exact absurd h h3
          · exact j4 j h4 h2 h3
        · rcases key j h1 (by omega) with rfl | h4
          · exact absurd h h3
          · exact j5 j h4 h2 h3
      · simp only [if_neg h]
        by_cases h9 : v (m - k - 1) < v b
        · simp only [if_pos h9]
          refine ⟨fun b2 hb2 => ?_, fun h => by cases h⟩
          cases hb2
          refine ⟨by omega, j2, j3, fun j h1 h2 h3 => ?_, fun j h1 h2 h3 => ?_⟩
          · rcases key j h1 h2 with rfl | h4
            · exact fun z => Int32.lt_irrefl (Int32.lt_trans z h9)
            · exact j4 j h4 h2 h3
          · rcases key j h1 (by omega) with rfl | h4
            · exact h9
            · exact j5 j h4 h2 h3
        · simp only [if_neg h9]
          refine ⟨fun b2 hb2 => ?_, fun h => by cases h⟩
          cases hb2
          refine ⟨by omega, by omega, h, fun j h1 h2 h3 => ?_, fun j h1 h2 h3 => by omega⟩
          rcases key j h1 h2 with rfl | h4
          · exact Int32.lt_irrefl
          · intro z
            have z2 := j4 j h4 h2 h3
            exact h9 (Int32.lt_of_lt_of_le z (Int32.not_lt.mp z2))
theorem bst_lt {v : Nat → Int32} {m a : Nat} (h : bst v m m = some a) : a < m := ((bst_inv v m m (Nat.le_refl _)).1 a h).2.1
/-- the only one that is such is it -/
theorem bst_is {v : Nat → Int32} {m a : Nat} (ha : a < m) (h0 : ¬ v a < 0) (h1 : ∀ j, j < m → ¬ v j < 0 → ¬ v a < v j) (h2 : ∀ j, j < a → ¬ v j < 0 → v j < v a) : bst v m m = some a := by
  obtain ⟨i1, i2⟩ := bst_inv v m m (Nat.le_refl _)
  cases hb : bst v m m with
  | none => exact absurd (i2 hb a (by omega) ha) h0
  | some b =>
    obtain ⟨j1, j2, j3, j4, j5⟩ := i1 b hb
    congr 1
    rcases Nat.lt_trichotomy a b with h | h | h
    · exact absurd (j5 a (by omega) h h0) (h1 b j2 j3)
    · exact h.symm
    · exact absurd (h2 b h j3) (j4 a (by omega) ha h0)
theorem bst_no {v : Nat → Int32} {m : Nat} (h : ∀ j, j < m → v j < 0) : bst v m m = none := by
  obtain ⟨i1, -⟩ := bst_inv v m m (Nat.le_refl _)
  cases hb : bst v m m with
  | none => rfl
  | some b => exact absurd (h b (i1 b hb).2.1) (i1 b hb).2.2.1
theorem sc_nn (s : GSt) (l : LSt) (c a : Nat) : ¬ sc s l c a < 0 := by
  unfold sc scw mx0
  split
  · decide
  · rename_i h
    rw [← nI_0]
    exact h
theorem FT_t {s : GSt} {l : LSt} {c a : Nat} (h : fit s l c a = true) : FT s l c a = sc s l c a := if_pos h
theorem FT_f {s : GSt} {l : LSt} {c a : Nat} (h : fit s l c a = false) : FT s l c a = -1 := by
  unfold FT
  rw [h]
  rfl
theorem FT_neg {s : GSt} {l : LSt} {c a : Nat} : FT s l c a < 0 ↔ fit s l c a = false := by
  cases h : fit s l c a with
  | true =>
    rw [FT_t h]
    exact ⟨fun z => absurd z (sc_nn s l c a), fun z => by cases z⟩
  | false =>
    rw [FT_f h]
    exact ⟨fun _ => rfl, fun _ => by decide⟩
theorem FT_nn {s : GSt} {l : LSt} {c a : Nat} : ¬ FT s l c a < 0 ↔ fit s l c a = true := by
  rw [FT_neg]
  cases fit s l c a <;> simp
/-- the row's best is the best fit article -/
theorem bst_FT (s : GSt) (l : LSt) (c : Nat) : bst (FT s l c) (g_nA s) (g_nA s) = fA s l c 0 := by
  rw [← bf_fA]
  obtain ⟨i1, i2, -⟩ := bf_inv s l c (g_nA s)
  cases hb : (bf s l c (g_nA s)).1 with
  | none =>
    refine bst_no (fun j hj => FT_neg.mpr ?_)
    cases hf : fit s l c j with
    | false => rfl
    | true =>
      obtain ⟨b, h1, -⟩ := i2 j hj hf
      rw [hb] at h1
      cases h1
  | some b =>
    obtain ⟨h1, h2, h3, h4⟩ := i1 b hb
    refine bst_is h1 (FT_nn.mpr h2) (fun j hj hn => ?_) (fun j hj hn => ?_)
    · have hf := FT_nn.mp hn
      rw [FT_t hf, FT_t h2]
      obtain ⟨b2, e2, e3⟩ := i2 j hj hf
      rw [hb] at e2
      cases e2
      exact e3
    · have hf := FT_nn.mp hn
      rw [FT_t hf, FT_t h2]
      exact h4 j hj hf
theorem hvi_0 (s : GSt) (x : Nat) : hvi s x 0 = 0 := rfl
theorem fnd_up (s : GSt) (w : Nat → Nat) (i a : Nat) : fnd s w (i + 1) a ≤ fnd s w i a + 1 ∧ fnd s w i a ≤ i := by
  refine ⟨?_, cnt_le _ _⟩
  show cnt (i + 1) _ ≤ _
  rw [cnt]
  show cnt i _ + _ ≤ cnt i _ + 1
  split <;> omega
theorem i32_dec (x : Int32) : x + (-1 : Int32) = x - nI 1 := by
  rw [Int32.sub_eq_add_neg, show -(nI 1) = (-1 : Int32) by decide]
theorem up_if {f g : Nat → Int32} {i x : Nat} {v : Int32} (hv : v = f i) : (if x = i then v else if x < i then f x else g x) = if x < i + 1 then f x else g x := by
  by_cases e1 : x = i
  · rw [if_pos e1, if_pos (show x < i + 1 by omega), hv, e1]
  · rw [if_neg e1]
    by_cases e2 : x < i
    · rw [if_pos e2, if_pos (show x < i + 1 by omega)]
    · rw [if_neg e2, if_neg (show ¬ x < i + 1 by omega)]
