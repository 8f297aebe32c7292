/-! What is sent, rounds, what is told: functions of the bureau as numbers, and how the reference's memory follows them. -/
def frst : Nat → (Nat → Bool) → Option Nat
  | 0, _ => none
  | n + 1, p => match frst n p with
    | some a => some a
    | none => if p n then some n else none
theorem frst_none {p : Nat → Bool} : ∀ {n : Nat}, (∀ k, k < n → p k = false) → frst n p = none
  | 0, _ => rfl
  | n + 1, h => by
    rw [frst, frst_none (fun k hk => h k (by omega))]
    simp [h n (by omega)]
theorem frst_hit {p : Nat → Bool} {i : Nat} : ∀ {n : Nat}, i < n → p i = true → (∀ k, k < i → p k = false) → frst n p = some i
  | 0, h, _, _ => absurd h (by omega)
  | n + 1, h, h1, h2 => by
    rw [frst]
    by_cases e : i = n
    · subst e
      rw [frst_none h2]
      simp [h1]
    · rw [frst_hit (by omega) h1 h2]
theorem frst_some {p : Nat → Bool} {a : Nat} : ∀ {n : Nat}, frst n p = some a → a < n ∧ p a = true ∧ ∀ k, k < a → p k = false
  | 0, h => by cases h
  | n + 1, h => by
    rw [frst] at h
    cases e : frst n p with
    | some b =>
      rw [e] at h
      cases h
      have := frst_some e
      exact ⟨by omega, this.2⟩
    | none =>
      rw [e] at h
      by_cases hp : p n
      · simp [hp] at h
        subst h
        refine ⟨by omega, hp, fun k hk => ?_⟩
        cases hq : p k with
        | false => rfl
        | true =>
          exfalso
          have : ∀ m, k < m → (frst m p).isSome := by
            intro m
            induction m with
            | zero => intro hk'; omega
            | succ m ih =>
              intro hm
              rw [frst]
              cases e2 : frst m p with
              | some b => rfl
              | none =>
                by_cases e3 : k = m
                · subst e3
                  simp [hq]
                · have := ih (by omega)
                  rw [e2] at this
                  cases this
          have := this n hk
          rw [e] at this
          cases this
      · simp [hp] at h
theorem frst_nn {p : Nat → Bool} {n : Nat} (h : frst n p = none) : ∀ k, k < n → p k = false := by
  induction n with
  | zero => intro k hk; omega
  | succ n ih =>
    intro k hk
    rw [frst] at h
    cases e : frst n p with
    | some b => rw [e] at h; cases h
    | none =>
      rw [e] at h
      by_cases hp : p n
      · simp [hp] at h
      · by_cases e2 : k = n
        · subst e2
          simpa using hp
        · exact ih e k (by omega)
theorem frst_congr {p q : Nat → Bool} {n : Nat} (h : ∀ k, k < n → p k = q k) : frst n p = frst n q := by
  induction n with
  | zero => rfl
  | succ n ih => rw [frst, frst, ih (fun k hk => h k (by omega)), h n (by omega)]
def oI : Option Nat → Int32
  | some a => nI a
  | none => -1
theorem nI_nm1 {a : Nat} (h : a < 2 ^ 31) : ¬ nI a = -1 := by
  intro e
  have := nI_pos h
  rw [e] at this
  exact this (by decide)
theorem nI_and31 {a : Nat} (h : a < 32) : nI a &&& 31 = nI a := by
  rw [pk_andN (by omega) 5 (by decide), Nat.mod_eq_of_lt (by omega)]
theorem nI_smod {a : Nat} (h : a < 16) : ((nI a).toBitVec.smod 32).toNat = a := by
  have : ∀ a : Fin 16, ((nI a.val).toBitVec.smod 32).toNat = a.val := by decide +kernel
  exact this ⟨a, h⟩
theorem nI_bit {m a : Nat} (hm : m < 2 ^ 16) (ha : a < 16) : (nI m >>> (nI a &&& 31)) &&& nI 1 = bl (bit m a) := by
  rw [nI_and31 (by omega), pk_shrN (by omega) _ a (nI_smod ha), pk_andN (Nat.lt_of_le_of_lt (Nat.div_le_self _ _) (by omega)) 1 (by decide)]
  unfold bit
  rw [Nat.testBit_eq_decide_div_mod_eq]
  have h2 : m / 2 ^ a % 2 = 0 ∨ m / 2 ^ a % 2 = 1 := by omega
  rcases h2 with h2 | h2 <;> simp [h2, bl]
theorem nI_shl1 {a : Nat} (ha : a < 16) : nI 1 <<< (nI a &&& 31) = nI (2 ^ a) := by
  have h2 : 2 ^ a < 2 ^ 16 := Nat.pow_lt_pow_right (by omega) ha
  rw [nI_and31 (by omega), pk_shlN _ a (nI_smod ha) (by omega), Nat.one_mul]
theorem nI_or {a b : Nat} : nI a ||| nI b = nI (a ||| b) := by
  apply Int32.toBitVec_inj.mp
  rw [Int32.toBitVec_or]
  apply BitVec.eq_of_toNat_eq
  rw [BitVec.toNat_or]
  simp only [nI, Int32.toBitVec_ofNat, BitVec.toNat_ofNat]
  exact Nat.or_mod_two_pow.symm
theorem bit_or {m a b : Nat} : bit (m ||| 2 ^ a) b = (bit m b || decide (a = b)) := by
  unfold bit
  rw [Nat.testBit_or, Nat.testBit_two_pow]
theorem or_lt {m a : Nat} (hm : m < 2 ^ 16) (ha : a < 16) : m ||| 2 ^ a < 2 ^ 16 := Nat.or_lt_two_pow hm (Nat.pow_lt_pow_right (by omega) ha)
/-- b comes before a -/
def btr (f : Nat → Int32) (b a : Nat) : Bool := decide (f a < f b) || (decide (f b = f a) && decide (b < a))
def rnk (s : GSt) (l : LSt) (c a : Nat) : Nat := cnt (g_nA s) (fun b => fit s l c b && btr (sc s l c) b a)
def fA (s : GSt) (l : LSt) (c p : Nat) : Option Nat := frst (g_nA s) (fun a => fit s l c a && decide (rnk s l c a = p))
def fts (s : GSt) (l : LSt) (c : Nat) : Nat := cnt (g_nA s) (fit s l c)
def prc (s : GSt) (l : LSt) (c a : Nat) : Int32 := nI 2 + sc s l c a / nI 20
def book (l : LSt) (c a : Nat) (p : Int32) : LSt := (l_age l, (fun k => if k = c then l_coin l c - p else l_coin l k), (fun k => if k = c then l_paid l c + p else l_paid l k), (fun k => if k = c then l_sent l c ||| 2 ^ a else l_sent l k), l_rnd l)
/-- the article that sending to a client sends -/
def snd1 (s : GSt) (l : LSt) (c : Nat) : Option Nat := match fA s l c 0 with
  | none => none
  | some a => if l_coin l c < prc s l c a then none else some a
def sendL (s : GSt) (l : LSt) (c : Nat) : LSt := match snd1 s l c with
  | none => l
  | some a => book l c a (prc s l c a)
/-- the first i sendings of a round -/
def tw (s : GSt) (l : LSt) : Nat → LSt
  | 0 => l
  | i + 1 => sendL s (tw s l i) (i / 2)
def twn (s : GSt) (l : LSt) (i : Nat) : Nat := cnt i (fun k => (snd1 s (tw s l k) (k / 2)).isSome)
def oldp (l : LSt) (i : Nat) : LSt := ((fun a => if a < i then l_age l a + nI 1 else l_age l a), l_coin l, l_paid l, l_sent l, l_rnd l)
def rnd1 (l : LSt) : LSt := (l_age l, l_coin l, l_paid l, l_sent l, l_rnd l + nI 1)
def roundL (s : GSt) (l : LSt) : LSt := rnd1 (oldp (tw s l (2 * g_nC s)) (g_nA s))
def rdn (s : GSt) (l : LSt) : Nat := twn s l (2 * g_nC s)
def roundsL (s : GSt) (l : LSt) : Nat → LSt
  | 0 => l
  | k + 1 => roundL s (roundsL s l k)
def rdsn (s : GSt) (l : LSt) (k : Nat) : Nat := sN k (fun j => rdn s (roundsL s l j))
theorem oldp_0 (l : LSt) : oldp l 0 = l := by
  obtain ⟨a, b⟩ := l
  unfold oldp l_age
  simp
  rfl
theorem fA_lt {s : GSt} {l : LSt} {c p a : Nat} (h : fA s l c p = some a) : a < g_nA s := (frst_some h).1
theorem snd1_some {s : GSt} {l : LSt} {c a : Nat} (h : snd1 s l c = some a) : fA s l c 0 = some a := by
  unfold snd1 at h
  cases e : fA s l c 0 with
  | none => rw [e] at h; cases h
  | some b =>
    rw [e] at h
    by_cases hc : l_coin l c < prc s l c b
    · simp [hc] at h
    · simp [hc] at h
      rw [h]
-- frames
def Fr (S : Nat → Nat → Prop) (M M' : dp_M) : Prop := ∀ h k, ¬ S h k → M' h k = M h k
/-- what sending and rounds write, in the reference -/
def wL (h k : Nat) : Prop := (h = 24 ∧ k % 14 = 1) ∨ (h = 25 ∧ (k % 10 = 0 ∨ k % 10 = 3 ∨ k % 10 = 4)) ∨ (h = 22 ∧ k = 3)
theorem Fr.refl (S : Nat → Nat → Prop) (M : dp_M) : Fr S M M := fun _ _ _ => rfl
theorem Fr.trans {S : Nat → Nat → Prop} {M M' M'' : dp_M} (h1 : Fr S M M') (h2 : Fr S M' M'') : Fr S M M'' := fun h k e => (h2 h k e).trans (h1 h k e)
theorem Fr.up {S : Nat → Nat → Prop} {M M' : dp_M} {h k : Nat} {x : Int32} (h1 : Fr S M M') (e : S h k) : Fr S M (dp_up M' h k x) := by
  intro a j n
  by_cases e2 : a = h ∧ j = k
  · obtain ⟨rfl, rfl⟩ := e2
    exact absurd e n
  · rw [show dp_up M' h k x a j = M' a j by simp [dp_up, e2]]
    exact h1 a j n
theorem Fr.RG {M M' : dp_M} {s : GSt} (hF : Fr wL M M') (h : RG M s) : RG M' s := by
  obtain ⟨hW, h1, h2, h3, h4, h5, h6, h7, h8⟩ := h
  refine ⟨hW, (hF _ _ ?_).trans h1, (hF _ _ ?_).trans h2, fun w hw => (hF _ _ ?_).trans (h3 w hw), fun a ha => (hF _ _ ?_).trans (h4 a ha), fun a k ha hk => (hF _ _ ?_).trans (h5 a k ha hk), fun c hc => (hF _ _ ?_).trans (h6 c hc), fun c k hc hk => (hF _ _ ?_).trans (h7 c k hc hk), fun c hc => (hF _ _ ?_).trans (h8 c hc)⟩
  all_goals (intro e; simp only [wL] at e)
  all_goals first
    | (have := hW.2.2.2.1 _ ‹_›; omega)
    | (have := hW.2.2.2.2.2.1 _ ‹_›; omega)
    | omega
theorem RLt.up_coin {M : dp_M} {l : LSt} (hL : RLt M l) {c : Nat} (hc : c < 6) {a : Nat} (ha : a < 16) (p : Int32) : RLt (dp_up (dp_up (dp_up M 25 (10 * c + 0) (l_coin l c - p)) 25 (10 * c + 3) (l_paid l c + p)) 25 (10 * c + 4) (nI (l_sent l c ||| 2 ^ a))) (book l c a p) := by
  obtain ⟨hW, h1, h2, h3⟩ := hL
  refine ⟨?_, ?_, ?_, ?_⟩
  · intro k hk
    show (if k = c then _ else _) < _
    split
    · exact or_lt (hW c hc) ha
    · exact hW k hk
  · intro a ha
    rw [dp_up_h (by decide), dp_up_h (by decide), dp_up_h (by decide)]
    exact h1 a ha
  · intro k hk
    obtain ⟨g1, g2, g3⟩ := h2 k hk
    by_cases e : k = c
    · subst e
      refine ⟨?_, ?_, ?_⟩
      · rw [dp_up_k (by omega), dp_up_k (by omega), show 10 * k + 0 = 10 * k from rfl, dp_up_s]
        exact (if_pos rfl).symm
      · rw [dp_up_k (by omega), dp_up_s]
        exact (if_pos rfl).symm
      · rw [dp_up_s]
        exact congrArg nI (if_pos rfl).symm
    · refine ⟨?_, ?_, ?_⟩
      · rw [dp_up_k (by omega), dp_up_k (by omega), dp_up_k (by omega), g1]
        exact (if_neg e).symm
      · rw [dp_up_k (by omega), dp_up_k (by omega), dp_up_k (by omega), g2]
        exact (if_neg e).symm
      · rw [dp_up_k (by omega), dp_up_k (by omega), dp_up_k (by omega), g3]
        exact congrArg nI (if_neg e).symm
  · rw [dp_up_h (by decide), dp_up_h (by decide), dp_up_h (by decide)]
    exact h3
theorem RLt.up_age {M : dp_M} {l : LSt} {i : Nat} (hL : RLt M (oldp l i)) : RLt (dp_up M 24 (14 * i + 1) (l_age l i + nI 1)) (oldp l (i + 1)) := by
  obtain ⟨hW, h1, h2, h3⟩ := hL
  refine ⟨hW, ?_, ?_, ?_⟩
  · intro a ha
    show _ = (if a < i + 1 then _ else _)
    by_cases e : a = i
    · subst e
      rw [dp_up_s, if_pos (by omega)]
    · rw [dp_up_k (by omega), h1 a ha]
      show (if a < i then _ else _) = _
      by_cases e2 : a < i
      · rw [if_pos e2, if_pos (by omega)]
      · rw [if_neg e2, if_neg (by omega)]
  · intro k hk
    rw [dp_up_h (by decide), dp_up_h (by decide), dp_up_h (by decide)]
    exact h2 k hk
  · rw [dp_up_h (by decide)]
    exact h3
theorem RLt.up_rnd {M : dp_M} {l : LSt} (hL : RLt M l) : RLt (dp_up M 22 3 (l_rnd l + nI 1)) (rnd1 l) := by
  obtain ⟨hW, h1, h2, h3⟩ := hL
  refine ⟨hW, ?_, ?_, ?_⟩
  · intro a ha
    rw [dp_up_h (by decide)]
    exact h1 a ha
  · intro k hk
    rw [dp_up_h (by decide), dp_up_h (by decide), dp_up_h (by decide)]
    exact h2 k hk
  · exact dp_up_s _ _ _ _
theorem RLt.at_age {M : dp_M} {l : LSt} {i : Nat} (hL : RLt M (oldp l i)) (hi : i < 16) : M 24 (14 * i + 1) = l_age l i := by
  rw [hL.2.1 i hi]
  exact if_neg (by omega)
theorem sendL_none {s : GSt} {l : LSt} {c : Nat} (h : snd1 s l c = none) : sendL s l c = l := by unfold sendL; rw [h]
theorem sendL_some {s : GSt} {l : LSt} {c a : Nat} (h : snd1 s l c = some a) : sendL s l c = book l c a (prc s l c a) := by unfold sendL; rw [h]
theorem sN_pos {f : Nat → Nat} : ∀ {n : Nat}, decide (0 < sN n f) = decide (0 < cnt n (fun k => decide (0 < f k)))
  | 0 => rfl
  | n + 1 => by
    have := sN_pos (f := f) (n := n)
    rw [decide_eq_decide] at this ⊢
    rw [sN, cnt]
    by_cases h : 0 < f n <;> simp [h] <;> omega
-- what is told
def stA (s : GSt) (a : Nat) : Nat := cnt 20 (fun x => decide (0 < tm s a x))
def rcv (s : GSt) (l : LSt) (a : Nat) : Nat := cnt (g_nC s) (fun c => bit (l_sent l c) a)
def aT (s : GSt) (l : LSt) (a w : Nat) : Int32 := if w = 0 then nI (g_len s a) else if w = 1 then nI (stA s a) else if w = 2 then l_age l a else nI (rcv s l a)
def snt (s : GSt) (l : LSt) (c : Nat) : Nat := cnt (g_nA s) (fun a => bit (l_sent l c) a)
def cT (s : GSt) (l : LSt) (c w : Nat) : Int32 := if w = 0 then l_coin l c else if w = 1 then nI (g_many s c) else if w = 2 then g_bar s c else if w = 3 then nI (snt s l c) else if w = 4 then l_paid l c else nI (fts s l c)
def wds (s : GSt) : Nat := sN (g_nA s) (g_len s)
def dfs (s : GSt) : Nat := cnt 20 (fun x => decide (0 < hvn s x))
def sntA (s : GSt) (l : LSt) : Nat := sN (g_nC s) (fun c => snt s l c)
def pdA (s : GSt) (l : LSt) : Int32 := sm (g_nC s) (l_paid l)
def nT (s : GSt) (l : LSt) (w : Nat) : Int32 := if w = 0 then nI (g_nA s) else if w = 1 then nI (g_nC s) else if w = 2 then nI (wds s) else if w = 3 then nI (dfs s) else if w = 4 then l_rnd l else if w = 5 then nI (sntA s l) else pdA s l
def shr (s : GSt) (a b : Nat) : Nat := sN 20 (fun x => min (tm s a x) (tm s b x))
def alk (s : GSt) (a b : Nat) : Nat := if g_len s a + g_len s b = 0 then 0 else 2 * shr s a b * 100 / (g_len s a + g_len s b)
/-- a client wants a stem more -/
def adds (s : GSt) (c x : Nat) : GSt := (g_nA s, g_nC s, g_st s, g_len s, g_wd s, g_bar s, (fun k => if k = c then g_many s c + 1 else g_many s k), (fun k i => if k = c ∧ i = g_many s c then x else g_wish s k i))
def wsh (s : GSt) (c x : Nat) : Option Nat := frst (g_many s c) (fun i => g_wish s c i == x)
/-- the best score if a stem was wanted, too -/
def tp (s : GSt) (l : LSt) (c x : Nat) : Int32 := match wsh s c x with
  | some _ => -1
  | none => match fA (adds s c x) l c 0 with
    | none => -1
    | some a => sc (adds s c x) l c a
def adv (s : GSt) (l : LSt) (c : Nat) : Nat → Int32 × Int32
  | 0 => (-1, -1)
  | i + 1 => if (adv s l c i).2 < tp s l c i then (nI i, tp s l c i) else adv s l c i
theorem adv_ge (s : GSt) (l : LSt) (c : Nat) : ∀ i, ¬ (adv s l c i).2 < -1
  | 0 => by
    show ¬ (-1 : Int32) < -1
    decide
  | i + 1 => by
    have := adv_ge s l c i
    rw [adv]
    split
    · rename_i h
      exact fun h2 => this (Int32.lt_trans h h2)
    · exact this
def sht1 (s : GSt) (l : LSt) (c : Nat) : Bool := match fA s l c 0 with
  | none => false
  | some a => decide (l_coin l c < prc s l c a)
def sht (s : GSt) (l : LSt) : Bool := (frst (g_nC s) (sht1 s l)).isSome
def unt (s : GSt) (l : LSt) : Option Nat := frst 41 (fun i => sht s (roundsL s l i))
def men (s : GSt) (l : LSt) : UInt64 := if sntA s l = 0 then FP.dconst0 else FP.ddiv (FP.i2d (pdA s l)) (FP.i2d (nI (sntA s l)))
def mxx (d : Int64) (x : Int32) : Int64 := d * 31 + x.toInt64
def fol : Nat → (Nat → Int64 → Int64) → Int64 → Int64
  | 0, _, d => d
  | n + 1, f, d => f n (fol n f d)
def dgA (s : GSt) (l : LSt) (a : Nat) (d : Int64) : Int64 := fol (g_len s a) (fun k d => mxx d (nI (g_wd s a k))) (fol 4 (fun w d => mxx d (aT s l a w)) d)
def dgC (s : GSt) (l : LSt) (c : Nat) (d : Int64) : Int64 := fol (g_nA s) (fun a d => mxx d (sc s l c a)) (fol (g_many s c) (fun k d => mxx d (nI (g_wish s c k))) (fol 6 (fun w d => mxx d (cT s l c w)) d))
def dig (s : GSt) (l : LSt) : Int64 := fol (g_nC s) (dgC s l) (fol (g_nA s) (dgA s l) (fol 40 (fun w d => mxx d (nI (g_st s w))) (fol 7 (fun w d => mxx d (nT s l w)) 1451)))
theorem nI_min {a b : Nat} (ha : a < 2 ^ 31) (hb : b < 2 ^ 31) : (if nI b < nI a then nI b else nI a) = nI (min a b) := by
  by_cases h : b < a
  · rw [if_pos (nI_lt h ha), Nat.min_eq_right (by omega)]
  · rw [if_neg (nI_nlt (by omega) hb), Nat.min_eq_left (by omega)]
theorem mx0_max {x : Int32} : (if nI 0 < x then x else nI 0) = mx0 x := by
  unfold mx0
  by_cases h : x < nI 0
  · rw [if_pos h, if_neg (fun h2 => Int32.lt_irrefl (Int32.lt_trans h h2))]
  · rw [if_neg h]
    by_cases h2 : nI 0 < x
    · rw [if_pos h2]
    · rw [if_neg h2]
      exact Int32.le_antisymm (Int32.not_lt.mp h) (Int32.not_lt.mp h2)
