/-! The bureau as numbers: what is written and wanted (g), and what sending and rounds change (l). -/
/-- articles, clients, stem of a word, words of an article, its words, bars, stems wanted, which -/
abbrev GSt : Type := Nat × Nat × (Nat → Nat) × (Nat → Nat) × (Nat → Nat → Nat) × (Nat → Int32) × (Nat → Nat) × (Nat → Nat → Nat)
def g_nA (s : GSt) : Nat := s.1
def g_nC (s : GSt) : Nat := s.2.1
def g_st (s : GSt) : Nat → Nat := s.2.2.1
def g_len (s : GSt) : Nat → Nat := s.2.2.2.1
def g_wd (s : GSt) : Nat → Nat → Nat := s.2.2.2.2.1
def g_bar (s : GSt) : Nat → Int32 := s.2.2.2.2.2.1
def g_many (s : GSt) : Nat → Nat := s.2.2.2.2.2.2.1
def g_wish (s : GSt) : Nat → Nat → Nat := s.2.2.2.2.2.2.2
/-- ages, coins, paid, sent (a bit an article), rounds -/
abbrev LSt : Type := (Nat → Int32) × (Nat → Int32) × (Nat → Int32) × (Nat → Nat) × Int32
def l_age (l : LSt) : Nat → Int32 := l.1
def l_coin (l : LSt) : Nat → Int32 := l.2.1
def l_paid (l : LSt) : Nat → Int32 := l.2.2.1
def l_sent (l : LSt) : Nat → Nat := l.2.2.2.1
def l_rnd (l : LSt) : Int32 := l.2.2.2.2
/-- bounds -/
def GW (s : GSt) : Prop := g_nA s ≤ 16 ∧ g_nC s ≤ 6 ∧ (∀ w, w < 40 → g_st s w < 20) ∧ (∀ a, a < 16 → g_len s a ≤ 12) ∧ (∀ a k, a < 16 → k < g_len s a → g_wd s a k < 40) ∧ (∀ c, c < 6 → g_many s c ≤ 5) ∧ (∀ c k, c < 6 → k < g_many s c → g_wish s c k < 20)
/-- the reference's memory holds s -/
def RG (M : dp_M) (s : GSt) : Prop := GW s ∧ M 22 1 = nI (g_nA s) ∧ M 22 2 = nI (g_nC s) ∧ (∀ w, w < 40 → M 23 w = nI (g_st s w)) ∧ (∀ a, a < 16 → M 24 (14 * a) = nI (g_len s a)) ∧ (∀ a k, a < 16 → k < g_len s a → M 24 (14 * a + (2 + k)) = nI (g_wd s a k)) ∧
  (∀ c, c < 6 → M 25 (10 * c + 1) = nI (g_many s c)) ∧ (∀ c k, c < 6 → k < g_many s c → M 25 (10 * c + (5 + k)) = nI (g_wish s c k)) ∧ (∀ c, c < g_nC s → M 25 (10 * c + 2) = g_bar s c)
def LW (l : LSt) : Prop := ∀ c, c < 6 → l_sent l c < 2 ^ 16
def RLt (M : dp_M) (l : LSt) : Prop := LW l ∧ (∀ a, a < 16 → M 24 (14 * a + 1) = l_age l a) ∧ (∀ c, c < 6 → M 25 (10 * c) = l_coin l c ∧ M 25 (10 * c + 3) = l_paid l c ∧ M 25 (10 * c + 4) = nI (l_sent l c)) ∧ M 22 3 = l_rnd l
def cnt : Nat → (Nat → Bool) → Nat
  | 0, _ => 0
  | n + 1, p => cnt n p + (if p n then 1 else 0)
theorem cnt_le (p : Nat → Bool) : ∀ n, cnt n p ≤ n
  | 0 => Nat.le_refl _
  | n + 1 => by
    have := cnt_le p n
    unfold cnt
    split <;> omega
theorem cnt_congr {p q : Nat → Bool} : ∀ {n : Nat}, (∀ k, k < n → p k = q k) → cnt n p = cnt n q
  | 0, _ => rfl
  | n + 1, h => by rw [cnt, cnt, cnt_congr (fun k hk => h k (by omega)), h n (by omega)]
theorem cnt_t {n : Nat} {p : Nat → Bool} (h : p n = true) : cnt (n + 1) p = cnt n p + 1 := by rw [cnt, h]; rfl
theorem cnt_f {n : Nat} {p : Nat → Bool} (h : p n = false) : cnt (n + 1) p = cnt n p := by rw [cnt, h]; rfl
theorem cnt_add {p : Nat → Bool} {a : Nat} : ∀ {b : Nat}, cnt (a + b) p = cnt a p + cnt b (fun k => p (a + k))
  | 0 => rfl
  | b + 1 => by rw [show a + (b + 1) = (a + b) + 1 by omega, cnt, cnt, cnt_add]; omega
def sN : Nat → (Nat → Nat) → Nat
  | 0, _ => 0
  | n + 1, f => sN n f + f n
theorem sN_congr {f g : Nat → Nat} : ∀ {n : Nat}, (∀ k, k < n → f k = g k) → sN n f = sN n g
  | 0, _ => rfl
  | n + 1, h => by rw [sN, sN, sN_congr (fun k hk => h k (by omega)), h n (by omega)]
theorem sN_le {f : Nat → Nat} {b : Nat} : ∀ {n : Nat}, (∀ k, k < n → f k ≤ b) → sN n f ≤ n * b
  | 0, _ => by simp [sN]
  | n + 1, h => by
    have h1 := sN_le (f := f) (b := b) (n := n) (fun k hk => h k (by omega))
    have h2 := h n (by omega)
    rw [sN, Nat.succ_mul]
    omega
/-- how often an article has a stem -/
def tm (s : GSt) (a x : Nat) : Nat := cnt (g_len s a) (fun k => g_st s (g_wd s a k) == x)
def hvn (s : GSt) (x : Nat) : Nat := cnt (g_nA s) (fun a => decide (0 < tm s a x))
def rar (s : GSt) (x : Nat) : Nat := 10 * (g_nA s + 1) / (hvn s x + 1)
def pts (s : GSt) (w : Nat → Nat) (n a : Nat) : Nat := sN n (fun k => min 3 (tm s a (w k)) * rar s (w k))
def fnd (s : GSt) (w : Nat → Nat) (n a : Nat) : Nat := cnt n (fun k => decide (0 < tm s a (w k)))
def pt2 (s : GSt) (w : Nat → Nat) (n a : Nat) : Nat := if 2 ≤ n ∧ fnd s w n a = n then pts s w n a + pts s w n a / 2 else pts s w n a
def mx0 (x : Int32) : Int32 := if x < nI 0 then nI 0 else x
/-- the score of an article for wishes w, with an age -/
def scw (s : GSt) (w : Nat → Nat) (n a : Nat) (age : Int32) : Int32 := mx0 (nI (pt2 s w n a) - nI 3 * age)
def sc (s : GSt) (l : LSt) (c a : Nat) : Int32 := scw s (g_wish s c) (g_many s c) a (l_age l a)
def bit (m a : Nat) : Bool := m.testBit a
def fit (s : GSt) (l : LSt) (c a : Nat) : Bool := !bit (l_sent l c) a && !decide (sc s l c a < g_bar s c)
theorem tm_le {s : GSt} (hW : GW s) {a : Nat} (ha : a < 16) (x : Nat) : tm s a x ≤ 12 := Nat.le_trans (cnt_le _ _) (hW.2.2.2.1 a ha)
theorem hvn_le {s : GSt} (hW : GW s) (x : Nat) : hvn s x ≤ 16 := Nat.le_trans (cnt_le _ _) hW.1
theorem rar_le {s : GSt} (hW : GW s) (x : Nat) : rar s x ≤ 170 := by
  unfold rar
  refine Nat.le_trans (Nat.div_le_self _ _) ?_
  have := hW.1
  omega
theorem pts_le {s : GSt} (hW : GW s) (w : Nat → Nat) (n a : Nat) : pts s w n a ≤ n * 510 := by
  refine sN_le (fun k _ => ?_)
  have h1 := rar_le hW (w k)
  have h2 : min 3 (tm s a (w k)) ≤ 3 := Nat.min_le_left _ _
  calc min 3 (tm s a (w k)) * rar s (w k) ≤ 3 * 170 := Nat.mul_le_mul h2 h1
    _ = 510 := by omega
