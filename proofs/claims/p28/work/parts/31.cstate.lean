/-! The class's memory. -/
def CG (M : dp_M) (s : GSt) : Prop := GW s ∧ (∀ a, g_nA s ≤ a → a < 16 → g_len s a = 0) ∧ (∀ c, g_nC s ≤ c → c < 6 → g_many s c = 0) ∧ M 1 5 = nI (g_nA s) ∧ M 2 3 = nI (g_nC s) ∧ (∀ w, w < 40 → M 6 w = nI (g_st s w)) ∧ (∀ a, a < 16 → M 8 a = nI (g_len s a)) ∧ (∀ a k, a < 16 → k < g_len s a → M (27 + a) k = nI (g_wd s a k)) ∧ (∀ a x, a < 16 → x < 20 → M (43 + a) x = nI (tm s a x)) ∧ (∀ x, x < 20 → M 10 x = nI (hvn s x)) ∧ (∀ c, c < 6 → M 12 c = nI (g_many s c)) ∧ (∀ c k, c < 6 → k < g_many s c → M (59 + c) k = nI (g_wish s c k)) ∧ (∀ c, c < g_nC s → M 13 c = g_bar s c) ∧ (∀ c, g_nC s ≤ c → c < 6 → M 13 c = nI 20)
section CGA
variable {M : dp_M} {s : GSt}
theorem CG.w (h : CG M s) : GW s := h.1
theorem CG.l0 (h : CG M s) {a : Nat} (h1 : g_nA s ≤ a) (h2 : a < 16) : g_len s a = 0 := h.2.1 a h1 h2
theorem CG.m0 (h : CG M s) {c : Nat} (h1 : g_nC s ≤ c) (h2 : c < 6) : g_many s c = 0 := h.2.2.1 c h1 h2
theorem CG.nA (h : CG M s) : M 1 5 = nI (g_nA s) := h.2.2.2.1
theorem CG.nC (h : CG M s) : M 2 3 = nI (g_nC s) := h.2.2.2.2.1
theorem CG.st (h : CG M s) (w : Nat) (hw : w < 40) : M 6 w = nI (g_st s w) := h.2.2.2.2.2.1 w hw
theorem CG.len (h : CG M s) (a : Nat) (ha : a < 16) : M 8 a = nI (g_len s a) := h.2.2.2.2.2.2.1 a ha
theorem CG.wd (h : CG M s) (a k : Nat) (ha : a < 16) (hk : k < g_len s a) : M (27 + a) k = nI (g_wd s a k) := h.2.2.2.2.2.2.2.1 a k ha hk
theorem CG.tm (h : CG M s) (a x : Nat) (ha : a < 16) (hx : x < 20) : M (43 + a) x = nI (tm s a x) := h.2.2.2.2.2.2.2.2.1 a x ha hx
theorem CG.hv (h : CG M s) (x : Nat) (hx : x < 20) : M 10 x = nI (hvn s x) := h.2.2.2.2.2.2.2.2.2.1 x hx
theorem CG.many (h : CG M s) (c : Nat) (hc : c < 6) : M 12 c = nI (g_many s c) := h.2.2.2.2.2.2.2.2.2.2.1 c hc
theorem CG.wish (h : CG M s) (c k : Nat) (hc : c < 6) (hk : k < g_many s c) : M (59 + c) k = nI (g_wish s c k) := h.2.2.2.2.2.2.2.2.2.2.2.1 c k hc hk
theorem CG.bar (h : CG M s) (c : Nat) (hc : c < g_nC s) : M 13 c = g_bar s c := h.2.2.2.2.2.2.2.2.2.2.2.2.1 c hc
theorem CG.bar0 (h : CG M s) (c : Nat) (h1 : g_nC s ≤ c) (h2 : c < 6) : M 13 c = nI 20 := h.2.2.2.2.2.2.2.2.2.2.2.2.2 c h1 h2
end CGA
def CL (ob b1 b2 b3 b4 : Nat) (M : dp_M) (l : LSt) : Prop := LW l ∧ (∀ a, a < 16 → M b1 a = l_age l a) ∧ (∀ c, c < 6 → M b2 c = l_coin l c ∧ M b3 c = l_paid l c ∧ M b4 c = nI (l_sent l c)) ∧ M ob 4 = l_rnd l
abbrev CLn : dp_M → LSt → Prop := CL 3 14 15 16 17
abbrev CLf : dp_M → LSt → Prop := CL 4 18 19 20 21
/-- what is never so for sent articles -/
def WFL (s : GSt) (l : LSt) : Prop := (∀ c, g_nC s ≤ c → c < 6 → l_sent l c = 0 ∧ l_paid l c = nI 0) ∧ (∀ c a, c < 6 → g_nA s ≤ a → bit (l_sent l c) a = false)
theorem bl_1 {b : Bool} (h : bl b = nI 1) : b = true := by cases b with
  | true => rfl
  | false => exact absurd h (by decide)
theorem bl_n1 {b : Bool} (h : ¬ bl b = nI 1) : b = false := by cases b with
  | false => rfl
  | true => exact absurd rfl h
/-- bits as bitCount reckons them -/
def pc16 (m : Nat) : Nat := cnt 16 (fun a => bit m a)
theorem cnt_zero {p : Nat → Bool} {n : Nat} (h : ∀ k, k < n → p k = false) : cnt n p = 0 := by
  induction n with
  | zero => rfl
  | succ n ih => rw [cnt_f (h n (by omega)), ih (fun k hk => h k (by omega))]
theorem cnt_ext {p : Nat → Bool} {a b : Nat} (h : a ≤ b) (hz : ∀ k, a ≤ k → k < b → p k = false) : cnt b p = cnt a p := by
  obtain ⟨d, rfl⟩ := Nat.exists_eq_add_of_le h
  rw [cnt_add, cnt_zero (fun k hk => hz (a + k) (by omega) (by omega)), Nat.add_zero]
theorem sN_ext {f : Nat → Nat} {a b : Nat} (h : a ≤ b) (hz : ∀ k, a ≤ k → k < b → f k = 0) : sN b f = sN a f := by
  induction b with
  | zero => rw [show a = 0 by omega]
  | succ b ih =>
    by_cases e : a = b + 1
    · rw [e]
    · rw [sN, ih (by omega) (fun k h1 h2 => hz k h1 (by omega)), hz b (by omega) (by omega), Nat.add_zero]
theorem sm_ext {f : Nat → Int32} {a b : Nat} (h : a ≤ b) (hz : ∀ k, a ≤ k → k < b → f k = nI 0) : sm b f = sm a f := by
  induction b with
  | zero => rw [show a = 0 by omega]
  | succ b ih =>
    by_cases e : a = b + 1
    · rw [e]
    · rw [sm, ih (by omega) (fun k h1 h2 => hz k h1 (by omega)), hz b (by omega) (by omega), nI_add_zero]
theorem WFL.pc {s : GSt} {l : LSt} (h : WFL s l) (hW : GW s) {c : Nat} (hc : c < 6) : pc16 (l_sent l c) = snt s l c := cnt_ext hW.1 (fun k h1 _ => h.2 c k hc h1)
theorem WFL.all {s : GSt} {l : LSt} (h : WFL s l) (hW : GW s) : sN 6 (fun c => pc16 (l_sent l c)) = sntA s l := by
  rw [sN_congr (g := fun c => snt s l c) (fun k hk => h.pc hW hk)]
  refine sN_ext hW.2.1 (fun k h1 h2 => ?_)
  refine cnt_zero (fun a _ => ?_)
  rw [(h.1 k h1 h2).1]
  exact Nat.zero_testBit a
theorem WFL.paid {s : GSt} {l : LSt} (h : WFL s l) (hW : GW s) : sm 6 (l_paid l) = pdA s l := sm_ext hW.2.1 (fun k h1 h2 => (h.1 k h1 h2).2)
theorem WFL.rcv {s : GSt} {l : LSt} (h : WFL s l) (hW : GW s) {a : Nat} : cnt 6 (fun c => bit (l_sent l c) a) = rcv s l a := cnt_ext hW.2.1 (fun k h1 h2 => by rw [(h.1 k h1 h2).1]; exact Nat.zero_testBit a)
theorem WFL.send {s : GSt} {l : LSt} (h : WFL s l) {c : Nat} (hc : c < g_nC s) : WFL s (sendL s l c) := by
  unfold sendL
  cases e : snd1 s l c with
  | none => exact h
  | some a =>
    have ha := fA_lt (snd1_some e)
    refine ⟨fun k h1 h2 => ?_, fun k b hk hb => ?_⟩
    · show (if k = c then _ else _) = _ ∧ (if k = c then _ else _) = _
      rw [if_neg (by omega), if_neg (by omega)]
      exact h.1 k h1 h2
    · show bit (if k = c then _ else _) b = false
      by_cases e2 : k = c
      · subst e2
        rw [if_pos rfl, bit_or, h.2 k b hk hb]
        simp
        omega
      · rw [if_neg e2]
        exact h.2 k b hk hb
theorem WFL.tw {s : GSt} {l : LSt} (h : WFL s l) : ∀ {i : Nat}, i ≤ 2 * g_nC s → WFL s (tw s l i)
  | 0, _ => h
  | i + 1, hi => (WFL.tw h (by omega)).send (by omega)
theorem WFL.round {s : GSt} {l : LSt} (h : WFL s l) : WFL s (roundL s l) := h.tw (Nat.le_refl _)
theorem WFL.rounds {s : GSt} {l : LSt} (h : WFL s l) : ∀ k, WFL s (roundsL s l k)
  | 0 => h
  | k + 1 => (WFL.rounds h k).round
/-- how many are sent in all -/
theorem fit_bit {s : GSt} {l : LSt} {c a : Nat} (h : fit s l c a = true) : bit (l_sent l c) a = false := by
  unfold fit at h
  cases e : bit (l_sent l c) a with
  | false => rfl
  | true => rw [e] at h; simp at h
theorem fA_fit {s : GSt} {l : LSt} {c p a : Nat} (h : fA s l c p = some a) : fit s l c a = true := by
  have := (frst_some h).2.1
  simp at this
  exact this.1
theorem cnt_set {p : Nat → Bool} {a n : Nat} (ha : a < n) (hp : p a = false) : cnt n (fun k => p k || decide (a = k)) = cnt n p + 1 := by
  induction n with
  | zero => omega
  | succ n ih =>
    by_cases e : a = n
    · subst e
      rw [cnt_t (by simp), cnt_f hp, cnt_congr (q := p) (fun k hk => by simp; omega)]
    · rw [cnt, cnt, ih (by omega)]
      have : (p n || decide (a = n)) = p n := by simp [e]
      rw [this]
      omega
theorem sN_set {f g : Nat → Nat} {c n : Nat} (hc : c < n) (h1 : g c = f c + 1) (h2 : ∀ k, k ≠ c → g k = f k) : sN n g = sN n f + 1 := by
  induction n with
  | zero => omega
  | succ n ih =>
    by_cases e : c = n
    · subst e
      rw [sN, sN, h1, sN_congr (g := f) (fun k hk => h2 k (by omega))]
      omega
    · rw [sN, sN, ih (by omega), h2 n (by omega)]
      omega
theorem sntA_send {s : GSt} {l : LSt} {c : Nat} (hc : c < g_nC s) : sntA s (sendL s l c) = sntA s l + (if (snd1 s l c).isSome then 1 else 0) := by
  unfold sendL
  cases e : snd1 s l c with
  | none => rfl
  | some a =>
    have hA := snd1_some e
    have ha := fA_lt hA
    refine sN_set hc ?_ (fun k hk => ?_)
    · show cnt _ (fun b => bit (if c = c then l_sent l c ||| 2 ^ a else l_sent l c) b) = _
      rw [if_pos rfl]
      have e9 : (fun b => bit (l_sent l c ||| 2 ^ a) b) = (fun b => bit (l_sent l c) b || decide (a = b)) := funext fun b => bit_or
      rw [e9]
      exact cnt_set ha (fit_bit (fA_fit hA))
    · show cnt _ (fun b => bit (if k = c then l_sent l c ||| 2 ^ a else l_sent l k) b) = _
      rw [if_neg hk]
      rfl
theorem sntA_tw {s : GSt} {l : LSt} : ∀ {i : Nat}, i ≤ 2 * g_nC s → sntA s (tw s l i) = sntA s l + twn s l i
  | 0, _ => rfl
  | i + 1, hi => by
    rw [tw, sntA_send (by omega), sntA_tw (by omega)]
    show _ = _ + cnt (i + 1) _
    rw [cnt, ← Nat.add_assoc]
    rfl
theorem sntA_round {s : GSt} {l : LSt} : sntA s (roundL s l) = sntA s l + rdn s l := sntA_tw (Nat.le_refl _)
theorem sntA_rounds {s : GSt} {l : LSt} : ∀ k, sntA s (roundsL s l k) = sntA s l + rdsn s l k
  | 0 => rfl
  | k + 1 => by
    rw [roundsL, sntA_round, sntA_rounds k]
    show _ = _ + sN (k + 1) _
    rw [sN, ← Nat.add_assoc]
    rfl
/-- the best so far -/
def bf (s : GSt) (l : LSt) (c : Nat) : Nat → Option Nat × Int32
  | 0 => (none, -1)
  | i + 1 => if (bf s l c i).2 < sc s l c i ∧ fit s l c i = true then (some i, sc s l c i) else bf s l c i
theorem sc_ge (s : GSt) (l : LSt) (c a : Nat) : (-1 : Int32) < sc s l c a := by
  unfold sc scw mx0
  split
  · decide
  · rename_i h
    exact Int32.lt_of_lt_of_le (by decide) (Int32.not_lt.mp h)
theorem bf_inv (s : GSt) (l : LSt) (c : Nat) : ∀ i, (∀ b, (bf s l c i).1 = some b → b < i ∧ fit s l c b = true ∧ (bf s l c i).2 = sc s l c b ∧ ∀ k, k < b → fit s l c k = true → sc s l c k < sc s l c b) ∧ (∀ k, k < i → fit s l c k = true → ∃ b, (bf s l c i).1 = some b ∧ ¬ sc s l c b < sc s l c k) ∧ ((bf s l c i).1 = none → (bf s l c i).2 = -1)
  | 0 => ⟨fun b h => (by cases h), fun k h => (by omega), fun _ => rfl⟩
  | i + 1 => by
    obtain ⟨i1, i2, i3⟩ := bf_inv s l c i
    rw [bf]
    by_cases h : (bf s l c i).2 < sc s l c i ∧ fit s l c i = true
    · rw [if_pos h]
      refine ⟨fun b hb => ?_, fun k hk hf => ⟨i, rfl, ?_⟩, fun z => by cases z⟩
      · cases hb
        refine ⟨by omega, h.2, rfl, fun k hk hf => ?_⟩
        obtain ⟨b, hb, hn⟩ := i2 k hk hf
        rw [(i1 b hb).2.2.1] at h
        exact Int32.lt_of_le_of_lt (Int32.not_lt.mp hn) h.1
      · by_cases e : k = i
        · subst e
          exact Int32.lt_irrefl
        · obtain ⟨b, hb, hn⟩ := i2 k (by omega) hf
          rw [(i1 b hb).2.2.1] at h
          exact fun z => hn (Int32.lt_trans h.1 z)
    · rw [if_neg h]
      refine ⟨fun b hb => ?_, fun k hk hf => ?_, i3⟩
      · have := i1 b hb
        exact ⟨by omega, this.2⟩
      · by_cases e : k = i
        · subst e
          cases hb : (bf s l c k).1 with
          | none =>
            exfalso
            refine h ⟨?_, hf⟩
            rw [i3 hb]
            exact sc_ge s l c k
          | some b =>
            refine ⟨b, rfl, fun z => h ⟨?_, hf⟩⟩
            rw [(i1 b hb).2.2.1]
            exact z
        · exact i2 k (by omega) hf
theorem bf_fA (s : GSt) (l : LSt) (c : Nat) : (bf s l c (g_nA s)).1 = fA s l c 0 := by
  obtain ⟨i1, i2, i3⟩ := bf_inv s l c (g_nA s)
  cases hb : (bf s l c (g_nA s)).1 with
  | none =>
    symm
    refine frst_none (fun k hk => ?_)
    cases hf : fit s l c k with
    | false => rfl
    | true =>
      obtain ⟨b, h1, _⟩ := i2 k hk hf
      rw [hb] at h1
      cases h1
  | some b =>
    obtain ⟨j1, j2, j3, j4⟩ := i1 b hb
    symm
    refine frst_hit j1 ?_ (fun k hk => ?_)
    · have hr : rnk s l c b = 0 := by
        refine cnt_zero (fun k hk => ?_)
        cases hf : fit s l c k with
        | false => rfl
        | true =>
          obtain ⟨b2, h1, h2⟩ := i2 k hk hf
          rw [hb] at h1
          cases h1
          have : btr (sc s l c) k b = false := by
            unfold btr
            simp only [Bool.or_eq_false_iff, decide_eq_false_iff_not, Bool.and_eq_false_iff]
            refine ⟨h2, ?_⟩
            by_cases hkb : k < b
            · have := j4 k hkb hf
              left
              intro z
              rw [z] at this
              exact Int32.lt_irrefl this
            · exact Or.inr hkb
          rw [this]
          rfl
      simp [j2, hr]
    · cases hf : fit s l c k with
      | false => rfl
      | true =>
        have hlt := j4 k hk hf
        have hr : rnk s l c k ≠ 0 := by
          intro hz
          have h9 : ∀ m, b < m → cnt m (fun b => fit s l c b && btr (sc s l c) b k) ≠ 0 := by
            intro m hm
            obtain ⟨d, rfl⟩ := Nat.exists_eq_add_of_lt hm
            rw [show b + d + 1 = (b + 1) + d by omega, cnt_add, cnt_t (by simp [j2, btr, hlt])]
            omega
          exact h9 _ j1 hz
        simp [hr]
-- frames
/-- the class's memory -/
def wC (h _k : Nat) : Prop := h < 22 ∨ (27 ≤ h ∧ h < 65)
/-- the class has answered u -/
def CA (M M' : dp_M) (u : Out) : Prop := Fr wC M M' ∧ CG M' (u_s u) ∧ CLn M' (u_l u)
def cres (u : Out) : dp_R := if u_k u = 0 then .inl (some (.int (u_r u))) else .inr (u_E u)
