/-! Fit articles by their rank; the row with the first of them taken out. -/
theorem cnt_mono {p q : Nat → Bool} : ∀ {n : Nat}, (∀ k, k < n → p k = true → q k = true) → cnt n p ≤ cnt n q
  | 0, _ => Nat.le_refl _
  | n + 1, h => by
    have h1 := cnt_mono (n := n) (fun k hk => h k (by omega))
    have h2 := h n (by omega)
    rw [cnt, cnt]
    cases hp : p n with
    | true => rw [h2 hp]; simp; exact h1
    | false => simp; exact Nat.le_trans h1 (Nat.le_add_right _ _)
theorem cnt_lt {p q : Nat → Bool} {a : Nat} : ∀ {n : Nat}, (∀ k, k < n → p k = true → q k = true) → a < n → p a = false → q a = true → cnt n p < cnt n q
  | 0, _, ha, _, _ => absurd ha (Nat.not_lt_zero _)
  | n + 1, h, ha, h1, h2 => by
    by_cases e : a = n
    · subst e
      rw [cnt_f h1, cnt_t h2]
      exact Nat.lt_succ_of_le (cnt_mono (fun k hk => h k (by omega)))
    · have h3 := cnt_lt (n := n) (fun k hk => h k (by omega)) (show a < n by omega) h1 h2
      have h4 := h n (by omega)
      rw [cnt, cnt]
      cases hp : p n with
      | true => rw [h4 hp]; simp; exact h3
      | false => simp; exact Nat.lt_of_lt_of_le h3 (Nat.le_add_right _ _)
theorem cnt_pos {p : Nat → Bool} {a n : Nat} (ha : a < n) (h : p a = true) : 0 < cnt n p := by
  have := cnt_lt (p := fun _ => false) (q := p) (n := n) (fun k _ z => by cases z) ha rfl h
  omega
theorem cnt_ex {p : Nat → Bool} : ∀ {n : Nat}, 0 < cnt n p → ∃ a, a < n ∧ p a = true
  | 0, h => absurd h (Nat.lt_irrefl _)
  | n + 1, h => by
    cases hp : p n with
    | true => exact ⟨n, by omega, hp⟩
    | false =>
      rw [cnt_f hp] at h
      obtain ⟨a, h1, h2⟩ := cnt_ex h
      exact ⟨a, by omega, h2⟩
/-- at most one more -/
theorem cnt_step {p q r : Nat → Bool} : ∀ {n : Nat}, (∀ k, k < n → q k = true → p k = true ∨ r k = true) → (∀ a b, a < n → b < n → r a = true → r b = true → a = b) → cnt n q ≤ cnt n p + 1
  | 0, _, _ => Nat.zero_le _
  | n + 1, h, hu => by
    by_cases hr : r n = true
    · have h1 : cnt n q ≤ cnt n p := cnt_mono (fun k hk hq => by
        rcases h k (by omega) hq with h2 | h2
        · exact h2
        · have := hu k n (by omega) (by omega) h2 hr
          omega)
      rw [cnt, cnt]
      split <;> split <;> omega
    · have h1 := cnt_step (n := n) (p := p) (fun k hk => h k (by omega)) (fun a b ha hb => hu a b (by omega) (by omega))
      have h2 := h n (by omega)
      rw [cnt, cnt]
      cases hq : q n with
      | true =>
        rcases h2 hq with h3 | h3
        · rw [h3]; simp; omega
        · exact absurd h3 hr
      | false => simp; omega
theorem btr_tot {f : Nat → Int32} {a b : Nat} (h : a ≠ b) : btr f a b = true ∨ btr f b a = true := by
  unfold btr
  simp only [Bool.or_eq_true, Bool.and_eq_true, decide_eq_true_eq]
  by_cases h1 : f b < f a
  · exact Or.inl (Or.inl h1)
  · by_cases h2 : f a < f b
    · exact Or.inr (Or.inl h2)
    · have e : f a = f b := Int32.le_antisymm (Int32.not_lt.mp h1) (Int32.not_lt.mp h2)
      rcases Nat.lt_or_ge a b with h3 | h3
      · exact Or.inl (Or.inr ⟨e, h3⟩)
      · exact Or.inr (Or.inr ⟨e.symm, by omega⟩)
theorem btr_irr {f : Nat → Int32} {a : Nat} : btr f a a = false := by
  unfold btr
  simp [Int32.lt_irrefl]
theorem btr_trans {f : Nat → Int32} {a b c : Nat} (h1 : btr f a b = true) (h2 : btr f b c = true) : btr f a c = true := by
  unfold btr at h1 h2 ⊢
  simp only [Bool.or_eq_true, Bool.and_eq_true, decide_eq_true_eq] at h1 h2 ⊢
  rcases h1 with h1 | ⟨h1, h3⟩ <;> rcases h2 with h2 | ⟨h2, h4⟩
  · exact Or.inl (Int32.lt_trans h2 h1)
  · exact Or.inl (by rw [← h2]; exact h1)
  · exact Or.inl (by rw [h1]; exact h2)
  · exact Or.inr ⟨h1.trans h2, by omega⟩
section RK
variable {s : GSt} {l : LSt} {c : Nat}
theorem rnk_lt {a b : Nat} (hb : b < g_nA s) (hf : fit s l c b = true) (h : btr (sc s l c) b a = true) : rnk s l c b < rnk s l c a := by
  refine cnt_lt (a := b) (fun k _ hk => ?_) hb (by rw [btr_irr]; simp) (by rw [hf, h]; rfl)
  simp only [Bool.and_eq_true] at hk ⊢
  exact ⟨hk.1, btr_trans hk.2 h⟩
theorem rnk_inj {a b : Nat} (ha : a < g_nA s) (hb : b < g_nA s) (hfa : fit s l c a = true) (hfb : fit s l c b = true) (e : rnk s l c a = rnk s l c b) : a = b := by
  by_cases h : a = b
  · exact h
  · rcases btr_tot (f := sc s l c) h with h1 | h1
    · have := rnk_lt ha hfa h1
      omega
    · have := rnk_lt hb hfb h1
      omega
/-- fit ones with a rank below -/
def nrk (s : GSt) (l : LSt) (c p : Nat) : Nat := cnt (g_nA s) (fun a => fit s l c a && decide (rnk s l c a < p))
theorem nrk_le : ∀ p, nrk s l c p ≤ p
  | 0 => by
    unfold nrk
    rw [cnt_zero (fun k _ => by simp)]
    exact Nat.le_refl _
  | p + 1 => by
    have h1 := nrk_le p
    have h2 : nrk s l c (p + 1) ≤ nrk s l c p + 1 := by
      refine cnt_step (r := fun a => fit s l c a && decide (rnk s l c a = p)) (fun k _ hk => ?_) (fun a b ha hb h3 h4 => ?_)
      · simp only [Bool.and_eq_true, decide_eq_true_eq] at hk ⊢
        by_cases e : rnk s l c k = p
        · exact Or.inr ⟨hk.1, e⟩
        · exact Or.inl ⟨hk.1, by omega⟩
      · simp only [Bool.and_eq_true, decide_eq_true_eq] at h3 h4
        exact rnk_inj ha hb h3.1 h4.1 (by omega)
    omega
/-- the row behind p taken out -/
def vr (s : GSt) (l : LSt) (c p a : Nat) : Int32 := if fit s l c a && decide (p ≤ rnk s l c a) then sc s l c a else -1
theorem vr_0 (a : Nat) : vr s l c 0 a = FT s l c a := by
  unfold vr FT
  simp
theorem vr_t {p a : Nat} (h1 : fit s l c a = true) (h2 : p ≤ rnk s l c a) : vr s l c p a = sc s l c a := by
  unfold vr
  rw [h1, decide_eq_true h2]
  rfl
theorem vr_nn {p a : Nat} : ¬ vr s l c p a < 0 ↔ (fit s l c a = true ∧ p ≤ rnk s l c a) := by
  unfold vr
  by_cases h : (fit s l c a && decide (p ≤ rnk s l c a)) = true
  · rw [if_pos h]
    simp only [Bool.and_eq_true, decide_eq_true_eq] at h
    exact ⟨fun _ => h, fun _ => sc_nn s l c a⟩
  · rw [if_neg h]
    simp only [Bool.and_eq_true, decide_eq_true_eq] at h
    exact ⟨fun z => absurd (by decide : (-1 : Int32) < 0) z, fun z => absurd z h⟩
/-- there is one of each rank -/
theorem rnk_ex {p : Nat} (hp : p < fts s l c) : ∃ a, a < g_nA s ∧ fit s l c a = true ∧ rnk s l c a = p ∧ bst (vr s l c p) (g_nA s) (g_nA s) = some a := by
  obtain ⟨i1, i2⟩ := bst_inv (vr s l c p) (g_nA s) (g_nA s) (Nat.le_refl _)
  cases hb : bst (vr s l c p) (g_nA s) (g_nA s) with
  | none =>
    exfalso
    have h1 : fts s l c ≤ nrk s l c p := cnt_mono (fun k hk hf => by
      simp only [Bool.and_eq_true, decide_eq_true_eq]
      refine ⟨hf, ?_⟩
      rcases Nat.lt_or_ge (rnk s l c k) p with h | h
      · exact h
      · exact absurd (i2 hb k (by omega) hk) (vr_nn.mpr ⟨hf, h⟩))
    have := nrk_le (s := s) (l := l) (c := c) p
    omega
  | some a =>
    obtain ⟨j1, j2, j3, j4, j5⟩ := i1 a hb
    obtain ⟨k1, k2⟩ := vr_nn.mp j3
    refine ⟨a, j2, k1, ?_, rfl⟩
    have h1 : rnk s l c a ≤ nrk s l c p := cnt_mono (fun b hb9 hf => by
      simp only [Bool.and_eq_true, decide_eq_true_eq] at hf ⊢
      refine ⟨hf.1, ?_⟩
      rcases Nat.lt_or_ge (rnk s l c b) p with h | h
      · exact h
      · exfalso
        have hn := vr_nn.mpr ⟨hf.1, h⟩
        have e1 := vr_t hf.1 h
        have e2 := vr_t k1 k2
        have hbt := hf.2
        unfold btr at hbt
        simp only [Bool.or_eq_true, Bool.and_eq_true, decide_eq_true_eq] at hbt
        rcases hbt with h9 | ⟨h9, h10⟩
        · have := j4 b (by omega) hb9 hn
          rw [e1, e2] at this
          exact this h9
        · have := j5 b (by omega) h10 hn
          rw [e1, e2, h9] at this
          exact Int32.lt_irrefl this)
    have := nrk_le (s := s) (l := l) (c := c) p
    omega
theorem fA_is {a p : Nat} (ha : a < g_nA s) (h1 : fit s l c a = true) (h2 : rnk s l c a = p) : fA s l c p = some a := by
  refine frst_hit ha (by rw [h1, decide_eq_true h2]; rfl) (fun k hk => ?_)
  cases hf : fit s l c k with
  | false => rfl
  | true =>
    rw [decide_eq_false (fun z => by
      have := rnk_inj (show k < g_nA s by omega) ha hf h1 (by omega)
      omega)]
    rfl
theorem fA_ex {p : Nat} (hp : p < fts s l c) : ∃ a, a < g_nA s ∧ fit s l c a = true ∧ rnk s l c a = p ∧ fA s l c p = some a ∧ bst (vr s l c p) (g_nA s) (g_nA s) = some a := by
  obtain ⟨a, h1, h2, h3, h4⟩ := rnk_ex hp
  exact ⟨a, h1, h2, h3, fA_is h1 h2 h3, h4⟩
theorem vr_next {a p k : Nat} (ha : a < g_nA s) (hk : k < g_nA s) (h1 : fit s l c a = true) (h2 : rnk s l c a = p) : (if k = a then (-1 : Int32) else vr s l c p k) = vr s l c (p + 1) k := by
  by_cases e : k = a
  · subst e
    rw [if_pos rfl]
    unfold vr
    rw [decide_eq_false (show ¬ p + 1 ≤ rnk s l c k by omega)]
    simp
  · rw [if_neg e]
    unfold vr
    cases hf : fit s l c k with
    | false => rfl
    | true =>
      have : decide (p ≤ rnk s l c k) = decide (p + 1 ≤ rnk s l c k) := decide_eq_decide.mpr ⟨fun z => by
        rcases Nat.lt_or_ge p (rnk s l c k) with h | h
        · exact h
        · exact absurd (rnk_inj hk ha hf h1 (by omega)) e, fun z => by omega⟩
      rw [this]
end RK
