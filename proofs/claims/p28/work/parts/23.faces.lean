/-! What each of the bureau's methods answers and does, in numbers: code for the law, exception, answer, what is then. -/
abbrev Out : Type := Nat × Nat × Int32 × GSt × LSt
def ok (r : Int32) (s : GSt) (l : LSt) : Out := (0, 0, r, s, l)
def bad (k E : Nat) (s : GSt) (l : LSt) : Out := (k, E, nI 0, s, l)
def u_k (u : Out) : Nat := u.1
def u_E (u : Out) : Nat := u.2.1
def u_r (u : Out) : Int32 := u.2.2.1
def u_s (u : Out) : GSt := u.2.2.2.1
def u_l (u : Out) : LSt := u.2.2.2.2
def setSt (s : GSt) (a b : Nat) : GSt := (g_nA s, g_nC s, (fun w => if w = a then b else g_st s w), g_len s, g_wd s, g_bar s, g_many s, g_wish s)
def prt (s : GSt) : GSt := (g_nA s + 1, g_nC s, g_st s, g_len s, g_wd s, g_bar s, g_many s, g_wish s)
def wrt (s : GSt) (a w : Nat) : GSt := (g_nA s, g_nC s, g_st s, (fun b => if b = a then g_len s a + 1 else g_len s b), (fun b k => if b = a ∧ k = g_len s a then w else g_wd s b k), g_bar s, g_many s, g_wish s)
def stk (s : GSt) (a p : Nat) : GSt := (g_nA s, g_nC s, g_st s, (fun b => if b = a then g_len s a - 1 else g_len s b), (fun b k => if b = a ∧ p ≤ k then g_wd s b (k + 1) else g_wd s b k), g_bar s, g_many s, g_wish s)
def cli (s : GSt) : GSt := (g_nA s, g_nC s + 1, g_st s, g_len s, g_wd s, (fun c => if c = g_nC s then nI 20 else g_bar s c), g_many s, g_wish s)
def drp (s : GSt) (c p : Nat) : GSt := (g_nA s, g_nC s, g_st s, g_len s, g_wd s, g_bar s, (fun k => if k = c then g_many s c - 1 else g_many s k), (fun k i => if k = c ∧ p ≤ i then g_wish s k (i + 1) else g_wish s k i))
def setB (s : GSt) (c : Nat) (x : Int32) : GSt := (g_nA s, g_nC s, g_st s, g_len s, g_wd s, (fun k => if k = c then x else g_bar s k), g_many s, g_wish s)
def setC (l : LSt) (c : Nat) (x : Int32) : LSt := (l_age l, (fun k => if k = c then x else l_coin l k), l_paid l, l_sent l, l_rnd l)
def mn (a b : Int32) : Int32 := if b < a then b else a
def fc_setStem (s : GSt) (l : LSt) (x y : Int32) : Out := match ix 40 x, ix 20 y with
  | some a, some b => ok (nI (g_st s a)) (setSt s a b) l
  | _, _ => bad 1 0 s l
def fc_print (s : GSt) (l : LSt) : Out := if g_nA s = 16 then bad 1 1 s l else ok (nI (g_nA s)) (prt s) l
def fc_write (s : GSt) (l : LSt) (x y : Int32) : Out := match ix (g_nA s) x, ix 40 y with
  | some a, some w => if g_len s a = 12 then bad 2 1 s l else ok (nI (g_len s a + 1)) (wrt s a w) l
  | _, _ => bad 1 0 s l
def fc_strike (s : GSt) (l : LSt) (x y : Int32) : Out := match ix (g_nA s) x with
  | some a => match ix (g_len s a) y with
    | some p => ok (nI (g_wd s a p)) (stk s a p) l
    | none => bad 1 0 s l
  | none => bad 1 0 s l
def fc_client (s : GSt) (l : LSt) (x : Int32) : Out := if isin x (nI 0) (nI 999) then (if g_nC s = 6 then bad 2 1 s l else ok (nI (g_nC s)) (cli s) (setC l (g_nC s) x)) else bad 1 2 s l
def fc_want (s : GSt) (l : LSt) (x y : Int32) : Out := match ix (g_nC s) x, ix 20 y with
  | some c, some x => if g_many s c = 5 then bad 2 1 s l else match wsh s c x with
    | some _ => bad 2 1 s l
    | none => ok (nI (g_many s c + 1)) (adds s c x) l
  | _, _ => bad 1 0 s l
def fc_drop (s : GSt) (l : LSt) (x y : Int32) : Out := match ix (g_nC s) x, ix 20 y with
  | some c, some x => match wsh s c x with
    | some p => ok (nI p) (drp s c p) l
    | none => bad 2 1 s l
  | _, _ => bad 1 0 s l
def fc_setBar (s : GSt) (l : LSt) (x y : Int32) : Out := match ix (g_nC s) x with
  | some c => if isin y (nI 0) (nI 999) then ok (g_bar s c) (setB s c y) l else bad 2 2 s l
  | none => bad 1 0 s l
def fc_pay (s : GSt) (l : LSt) (x y : Int32) : Out := match ix (g_nC s) x with
  | some c => if isin y (nI 1) (nI 999) then ok (mn (nI 9999) (l_coin l c + y)) s (setC l c (mn (nI 9999) (l_coin l c + y))) else bad 2 2 s l
  | none => bad 1 0 s l
def fc_send (s : GSt) (l : LSt) (x : Int32) : Out := match ix (g_nC s) x with
  | some c => ok (oI (snd1 s l c)) s (sendL s l c)
  | none => bad 1 0 s l
def fc_pass (s : GSt) (l : LSt) (x : Int32) : Out := if isin x (nI 1) (nI 30) then ok (nI (rdsn s l x.toNatClampNeg)) s (roundsL s l x.toNatClampNeg) else bad 1 2 s l
def fc_told (s : GSt) (l : LSt) (x y : Int32) : Out := match ix (g_nA s) x, ix 4 y with
  | some a, some w => ok (aT s l a w) s l
  | _, _ => bad 1 0 s l
def fc_word (s : GSt) (l : LSt) (x y : Int32) : Out := match ix (g_nA s) x with
  | some a => match ix (g_len s a) y with
    | some p => ok (nI (g_wd s a p)) s l
    | none => bad 1 0 s l
  | none => bad 1 0 s l
def fc_about (s : GSt) (l : LSt) (x y : Int32) : Out := match ix (g_nC s) x, ix 6 y with
  | some c, some w => ok (cT s l c w) s l
  | _, _ => bad 1 0 s l
def fc_stem (s : GSt) (l : LSt) (x y : Int32) : Out := match ix (g_nC s) x with
  | some c => match ix (g_many s c) y with
    | some p => ok (nI (g_wish s c p)) s l
    | none => bad 1 0 s l
  | none => bad 1 0 s l
def fc_count (s : GSt) (l : LSt) (x : Int32) : Out := match ix 7 x with
  | some w => ok (nT s l w) s l
  | none => bad 1 0 s l
def fc_rarity (s : GSt) (l : LSt) (x : Int32) : Out := match ix 20 x with
  | some a => ok (nI (rar s a)) s l
  | none => bad 1 0 s l
def fc_score (s : GSt) (l : LSt) (x y : Int32) : Out := match ix (g_nC s) x, ix (g_nA s) y with
  | some c, some a => ok (sc s l c a) s l
  | _, _ => bad 1 0 s l
def fc_fit (s : GSt) (l : LSt) (x y : Int32) : Out := match ix (g_nC s) x with
  | some c => match ix (fts s l c) y with
    | some p => ok (oI (fA s l c p)) s l
    | none => bad 1 0 s l
  | none => bad 1 0 s l
def fc_alike (s : GSt) (l : LSt) (x y : Int32) : Out := match ix (g_nA s) x, ix (g_nA s) y with
  | some a, some b => ok (nI (alk s a b)) s l
  | _, _ => bad 1 0 s l
def advr (s : GSt) (l : LSt) (c : Nat) : Int32 := if g_many s c = 5 then -1 else (adv s l c 20).1
def fc_advise (s : GSt) (l : LSt) (x : Int32) : Out := match ix (g_nC s) x with
  | some c => ok (advr s l c) s l
  | none => bad 1 0 s l
def fc_foresee (s : GSt) (l : LSt) (x y : Int32) : Out := if isin x (nI 1) (nI 30) then (match ix (g_nC s) y with
  | some c => ok (l_coin (roundsL s l x.toNatClampNeg) c) s l
  | none => bad 2 0 s l) else bad 1 2 s l
theorem is_f {o : Option Nat} (h : o.isSome = false) : o = none := by cases o with
  | none => rfl
  | some a => cases h
theorem is_t {o : Option Nat} (h : o.isSome = true) : ∃ a, o = some a := by cases o with
  | none => cases h
  | some a => exact ⟨a, rfl⟩
theorem isin_n {x : Int32} {lo hi : Nat} (h : isin x (nI lo) (nI hi) = true) (hh : hi < 2 ^ 31) (hl : lo < 2 ^ 31) : ∃ k, lo ≤ k ∧ k ≤ hi ∧ x = nI k := by
  unfold isin at h
  simp at h
  have h0 : ¬ x < 0 := fun z => Int32.lt_irrefl (Int32.lt_of_lt_of_le z (Int32.le_trans (nI_pos' hl) h.1))
  obtain ⟨j, hj, rfl⟩ := nI_of h0
  exact ⟨j, (nI_leI hl hj).mp h.1, (nI_leI hj hh).mp h.2, rfl⟩
/-- the reference's memory -/
def wR (h _k : Nat) : Prop := (22 ≤ h ∧ h ≤ 25) ∨ 65 ≤ h
theorem Fr.toR {M M' : dp_M} (h : Fr wL M M') : Fr wR M M' := by
  intro a k e
  refine h a k (fun z => e ?_)
  simp only [wL] at z
  simp only [wR]
  omega
/-- the reference has answered u -/
def RA (M M' : dp_M) (u : Out) : Prop := Fr wR M M' ∧ RG M' (u_s u) ∧ RLt M' (u_l u) ∧ M' 22 0 = nI (u_k u)
theorem RG.up0 {M : dp_M} {s : GSt} (x : Int32) (h : RG M s) : RG (dp_up M 22 0 x) s := by
  obtain ⟨hW, h1, h2, h3, h4, h5, h6, h7, h8⟩ := h
  exact ⟨hW, (dp_up_k (by decide)).trans h1, (dp_up_k (by decide)).trans h2, fun w hw => (dp_up_h (by decide)).trans (h3 w hw), fun a ha => (dp_up_h (by decide)).trans (h4 a ha), fun a k ha hk => (dp_up_h (by decide)).trans (h5 a k ha hk), fun c hc => (dp_up_h (by decide)).trans (h6 c hc), fun c k hc hk => (dp_up_h (by decide)).trans (h7 c k hc hk), fun c hc => (dp_up_h (by decide)).trans (h8 c hc)⟩
theorem RLt.up0 {M : dp_M} {l : LSt} (x : Int32) (h : RLt M l) : RLt (dp_up M 22 0 x) l := by
  obtain ⟨hW, h1, h2, h3⟩ := h
  exact ⟨hW, fun a ha => (dp_up_h (by decide)).trans (h1 a ha), fun c hc => ⟨(dp_up_h (by decide)).trans (h2 c hc).1, (dp_up_h (by decide)).trans (h2 c hc).2.1, (dp_up_h (by decide)).trans (h2 c hc).2.2⟩, (dp_up_k (by decide)).trans h3⟩
theorem Fr.up0 {M M' : dp_M} (x : Int32) (h : Fr wR M M') : Fr wR M (dp_up M' 22 0 x) := Fr.up h (Or.inl ⟨by decide, by decide⟩)
theorem RA.bad {M M' : dp_M} {s : GSt} {l : LSt} {k E : Nat} {x : Int32} (hx : x = nI k) (hF : Fr wR M M') (hG : RG M' s) (hL : RLt M' l) : RA M (dp_up M' 22 0 x) (bad k E s l) := ⟨hF.up0 _, hG.up0 _, hL.up0 _, by rw [dp_up_s]; exact hx⟩
theorem RA.ok {M M' : dp_M} {s : GSt} {l : LSt} {r : Int32} (hF : Fr wR M M') (hG : RG M' s) (hL : RLt M' l) (h0 : M' 22 0 = nI 0) : RA M M' (ok r s l) := ⟨hF, hG, hL, h0⟩
theorem wL_0 (c : Nat) : wL 25 (10 * c + 0) := Or.inr (Or.inl ⟨rfl, Or.inl (by omega)⟩)
theorem wL_3 (c : Nat) : wL 25 (10 * c + 3) := Or.inr (Or.inl ⟨rfl, Or.inr (Or.inl (by omega))⟩)
theorem wL_4 (c : Nat) : wL 25 (10 * c + 4) := Or.inr (Or.inl ⟨rfl, Or.inr (Or.inr (by omega))⟩)
theorem wL_a (a : Nat) : wL 24 (14 * a + 1) := Or.inl ⟨rfl, by omega⟩
theorem wL_r : wL 22 3 := Or.inr (Or.inr ⟨rfl, rfl⟩)
theorem nI_cntb (p : Nat → Bool) (i : Nat) : nI (cnt i p) + bl (p i) = nI (cnt (i + 1) p) := by
  cases h : p i with
  | true => rw [cnt_t h, bl_t, nI_add]
  | false => rw [cnt_f h, bl_f, nI_add, Nat.add_zero]
theorem ts_at {x : Int32} {F : Int → Prop} : ∀ (offs : List Int) (lo : Int), (∀ (i : Nat) (off : Int), offs[i]? = some off → x.toInt = lo + i → F off) → dp_ts x lo offs F
  | [], _, _ => trivial
  | o :: t, lo, h => ⟨fun e => h 0 o rfl (by omega), ts_at t (lo + 1) (fun i off e1 e2 => h (i + 1) off e1 (by omega))⟩
section KSW
variable {X : dp_X} {call : dp_C} {d y : Nat} {Q : dp_Q} {K : dp_K} {pc n c q : Nat} {L : dp_L} {st : List Value} {M : dp_M} {o : dp_O}
theorem k_swl (hK : dp_clo X call d y Q K) {dflt hi0 off : Int} {offs : Array Int} {len t w : Nat} (hi : dp_tab y pc = (.tableswitch dflt 0 hi0 offs, len)) (hw : w < 2 ^ 31) (hx : offs.toList[w]? = some off) (hh0 : (w : Int) ≤ hi0) (ht : dp_jt pc off = t) (hh : K t L st n c q M o) : K pc L (.int (nI w) :: st) n c q M o := by
  refine k_switch hK hi rfl (fun e => ?_) (ts_at _ _ (fun i f e1 e2 => ?_))
  · exfalso
    rw [nI_toInt hw] at e
    omega
  · rw [nI_toInt hw] at e2
    obtain rfl : w = i := by omega
    rw [hx] at e1
    cases e1
    subst ht
    exact hh
theorem k_swd (hK : dp_clo X call d y Q K) {dflt hi0 : Int} {offs : Array Int} {len t w : Nat} (hi : dp_tab y pc = (.tableswitch dflt 0 hi0 offs, len)) (hw : w < 2 ^ 31) (hh0 : hi0 < (w : Int)) (hl : offs.toList.length ≤ w) (ht : dp_jt pc dflt = t) (hh : K t L st n c q M o) : K pc L (.int (nI w) :: st) n c q M o := by
  refine k_switch hK hi ht (fun e => hh) (ts_at _ _ (fun i f e1 e2 => ?_))
  exfalso
  rw [nI_toInt hw] at e2
  have : i < offs.toList.length := (List.getElem?_eq_some_iff.mp e1).1
  omega
end KSW
