/-! Rows of references, and what may stand in them. -/
theorem RP.next {o : dp_O} {b : Bool} {h m j j' : Nat} {v w : Nat → Nat} (h1 : RP o b h m j v) (hj : j' ≤ j) (e : ∀ k, k < j' → v k = w k) : RP o b h m j' w := by
  obtain ⟨g, e1, f⟩ := h1
  exact ⟨g, e1, fun k hk => (f k (by omega)).trans (congrArg some (e k hk))⟩
theorem RP.to {o : dp_O} {b : Bool} {h m j : Nat} {v w : Nat → Nat} (h1 : RP o b h m j v) (hj : m ≤ j) (e : ∀ k, k < m → v k = w k) : RW o b h m w := by
  obtain ⟨g, e1, f⟩ := h1
  exact ⟨g, e1, fun k hk => (f k (by omega)).trans (congrArg some (e k hk))⟩
theorem RP.ne_I {o : dp_O} {h k m n j : Nat} {b : Bool} {v : Nat → Int32} {w : Nat → Nat} (h1 : RP o b k n j w) (h2 : IA o h m v) : k ≠ h := by
  rintro rfl
  obtain ⟨g, e, -⟩ := h1
  obtain ⟨g2, e2, -⟩ := h2
  rw [e] at e2
  cases e2
theorem RP.ne_O {o : dp_O} {h k n j ci : Nat} {b : Bool} {fs : List Value} {w : Nat → Nat} (h1 : RP o b k n j w) (h2 : OB o h ci fs) : k ≠ h := by
  rintro rfl
  obtain ⟨g, e, -⟩ := h1
  unfold OB at h2
  rw [e] at h2
  cases h2
theorem RP.ne_B {o : dp_O} {h k m n j : Nat} {b : Bool} {v : Nat → Int32} {w : Nat → Nat} (h1 : RP o b k n j w) (h2 : BA o h m v) : k ≠ h := by
  rintro rfl
  obtain ⟨g, e, -⟩ := h1
  obtain ⟨g2, e2, -⟩ := h2
  rw [e] at e2
  cases e2
theorem RP.sm {o : dp_O} {k n j : Nat} {b : Bool} {w : Nat → Nat} (h1 : RP o b k n j w) : ∃ c, o k = some c := by
  obtain ⟨g, e, -⟩ := h1
  exact ⟨_, e⟩
theorem RP.wr {o o1 : dp_O} {b : Bool} {h k m j : Nat} {v : Nat → Nat} (h1 : RP o b h m j v) (hw : Wr o o1 k) (hn : h ≠ k) : RP o1 b h m j v := by
  obtain ⟨g, e, f⟩ := h1
  exact ⟨g, by rw [hw h hn]; exact e, f⟩
theorem el_I {o : dp_O} {h m : Nat} {v : Nat → Int32} (h1 : IA o h m v) : dp_el o false h := by
  obtain ⟨g, e, -⟩ := h1
  exact Or.inl ⟨rfl, m, g, e⟩
theorem el_O {o : dp_O} {h : Nat} {fs : List Value} (h1 : OB o h 4 fs) : dp_el o true h := Or.inr ⟨rfl, fs, h1⟩
theorem wsh_some {s : GSt} {c x i : Nat} (hi : i < g_many s c) (h : g_wish s c i = x) (h2 : ∀ k, k < i → g_wish s c k ≠ x) : wsh s c x = some i := frst_hit hi (by simp [h]) (fun k hk => by simp [h2 k hk])
theorem wsh_none {s : GSt} {c x : Nat} (h2 : ∀ k, k < g_many s c → g_wish s c k ≠ x) : wsh s c x = none := frst_none (fun k hk => by simp [h2 k hk])
section SRV
variable {o o1 : dp_O} {S hs hw ha hc : Nat} {W C V B : Nat → Nat} {s : GSt} {l : LSt} {M : dp_M}
/-- an article more -/
theorem sr_prt {p r : Nat} (hR : SR o S hs hw ha hc W C V B s l) (hJ : JC M s l) (hb : g_nA s < 16) (hw9 : Wr o o1 S) (ho : OB o1 S 5 [.ref hs, .ref p, .ref ha, .ref hc, .int (l_rnd l)]) (hp : RW o false p (g_nA s + 1) (fun k => if k = g_nA s then r else W k)) (hr : IA o r 0 (fun _ => nI 0)) (hr1 : r ≠ hs ∧ r ≠ ha) :
    SR o1 S hs p ha hc (fun k => if k = g_nA s then r else W k) C V B (prt s) l := by
  refine hR.set (s' := prt s) (l' := l) hw9 ho rfl hp (fun a h => ?_) hR.rc hR.cl hR.wi hR.se rfl rfl (fun a h => ?_) hR.d3 (fun _ _ h1 h2 => hR.d4 h1 h2) (fun _ _ h1 h2 => hR.d5 h1 h2)
  · have h : a < g_nA s + 1 := h
    by_cases e : a = g_nA s
    · subst e
      simp only [if_pos]
      show IA o r (g_len s (g_nA s)) _
      rw [hJ.1.l0 (Nat.le_refl _) hb]
      exact hr.congr (fun k hk => absurd hk (Nat.not_lt_zero k))
    · simp only [if_neg e]
      exact hR.wd a (by omega)
  · have h : a < g_nA s + 1 := h
    by_cases e : a = g_nA s
    · simp only [if_pos e]
      exact hr1
    · simp only [if_neg e]
      exact hR.d2 a (by omega)
/-- a client more -/
theorem sr_cli {p c9 v b k : Nat} (hR : SR o S hs hw ha hc W C V B s l) (hJ : JC M s l) (hb : g_nC s < 6) (hw9 : Wr o o1 S) (ho : OB o1 S 5 [.ref hs, .ref hw, .ref ha, .ref p, .int (l_rnd l)]) (hp : RW o true p (g_nC s + 1) (fun k => if k = g_nC s then c9 else C k))
    (hO : OB o c9 4 [.int (nI k), .int (nI 20), .int 0, .ref v, .ref b]) (hv : IA o v 0 (fun _ => nI 0)) (hB : BA o b 16 (fun _ => nI 0)) (hv1 : v ≠ hs ∧ v ≠ ha) (hc1 : ∀ i, i < g_nC s → c9 ≠ C i) (hb1 : ∀ i, i < g_nC s → b ≠ B i) :
    SR o1 S hs hw ha p W (fun k => if k = g_nC s then c9 else C k) (fun k => if k = g_nC s then v else V k) (fun k => if k = g_nC s then b else B k) (cli s) (setC l (g_nC s) (nI k)) := by
  obtain ⟨z1, z2⟩ := hJ.2.2.1 (g_nC s) (Nat.le_refl _) hb
  have z3 := hJ.1.m0 (Nat.le_refl _) hb
  refine hR.set (s' := cli s) (l' := setC l (g_nC s) (nI k)) hw9 ho rfl hR.rw hR.wd hp (fun c h => ?_) (fun c h => ?_) (fun c h => ?_) rfl rfl hR.d2 (fun c h => ?_) (fun i j h1 h2 e => ?_) (fun i j h1 h2 e => ?_)
  · have h : c < g_nC s + 1 := h
    by_cases e : c = g_nC s
    · subst e
      simp only [if_pos]
      rw [show l_coin (setC l (g_nC s) (nI k)) (g_nC s) = nI k from if_pos rfl, show g_bar (cli s) (g_nC s) = nI 20 from if_pos rfl, show l_paid (setC l (g_nC s) (nI k)) (g_nC s) = 0 from z2.trans nI_0]
      exact hO
    · simp only [if_neg e]
      rw [show l_coin (setC l (g_nC s) (nI k)) c = l_coin l c from if_neg e, show g_bar (cli s) c = g_bar s c from if_neg e]
      exact hR.cl c (by omega)
  · have h : c < g_nC s + 1 := h
    by_cases e : c = g_nC s
    · subst e
      simp only [if_pos]
      show IA o v (g_many s (g_nC s)) _
      rw [z3]
      exact hv.congr (fun k hk => absurd hk (Nat.not_lt_zero k))
    · simp only [if_neg e]
      exact hR.wi c (by omega)
  · have h : c < g_nC s + 1 := h
    by_cases e : c = g_nC s
    · subst e
      simp only [if_pos]
      refine hB.congr (fun j hj => ?_)
      show _ = bl (bit (l_sent l (g_nC s)) j)
      rw [z1]
      unfold bit
      rw [Nat.zero_testBit]
      rfl
    · simp only [if_neg e]
      exact hR.se c (by omega)
  · have h : c < g_nC s + 1 := h
    by_cases e : c = g_nC s
    · simp only [if_pos e]
      exact hv1
    · simp only [if_neg e]
      exact hR.d3 c (by omega)
  · have h1 : i < g_nC s + 1 := h1
    have h2 : j < g_nC s + 1 := h2
    by_cases e1 : i = g_nC s <;> by_cases e2 : j = g_nC s
    · omega
    · simp only [if_pos e1, if_neg e2] at e
      exact absurd e (hc1 j (by omega))
    · simp only [if_neg e1, if_pos e2] at e
      exact absurd e.symm (hc1 i (by omega))
    · simp only [if_neg e1, if_neg e2] at e
      exact hR.d4 (by omega) (by omega) e
  · have h1 : i < g_nC s + 1 := h1
    have h2 : j < g_nC s + 1 := h2
    by_cases e1 : i = g_nC s <;> by_cases e2 : j = g_nC s
    · omega
    · simp only [if_pos e1, if_neg e2] at e
      exact absurd e (hb1 j (by omega))
    · simp only [if_neg e1, if_pos e2] at e
      exact absurd e.symm (hb1 i (by omega))
    · simp only [if_neg e1, if_neg e2] at e
      exact hR.d5 (by omega) (by omega) e
/-- a word more -/
theorem sr_wrt {a w r : Nat} (hR : SR o S hs hw ha hc W C V B s l) (ha9 : a < g_nA s) (hw9 : Wr o o1 hw) (ho : RW o1 false hw (g_nA s) (fun k => if k = a then r else W k)) (hr : IA o r (g_len s a + 1) (fun k => if k = g_len s a then nI w else nI (g_wd s a k))) (hr1 : r ≠ hs ∧ r ≠ ha) :
    SR o1 S hs hw ha hc (fun k => if k = a then r else W k) C V B (wrt s a w) l := by
  refine hR.wrd (s' := wrt s a w) ha9 hw9 ho ?_ hr1 rfl rfl rfl rfl rfl rfl (fun k hk => ⟨if_neg hk, fun i hi => if_neg (fun z => hk z.1)⟩)
  rw [show g_len (wrt s a w) a = g_len s a + 1 from if_pos rfl]
  refine hr.congr (fun k hk => ?_)
  show _ = nI (if a = a ∧ k = g_len s a then w else g_wd s a k)
  by_cases e : k = g_len s a
  · rw [if_pos e, if_pos ⟨rfl, e⟩]
  · rw [if_neg e, if_neg (fun z => e z.2)]
/-- a word less -/
theorem sr_stk {a p r : Nat} (hR : SR o S hs hw ha hc W C V B s l) (ha9 : a < g_nA s) (hw9 : Wr o o1 hw) (ho : RW o1 false hw (g_nA s) (fun k => if k = a then r else W k)) (hr : IA o r (g_len s a - 1) (fun k => if k < p then nI (g_wd s a k) else nI (g_wd s a (k + 1)))) (hr1 : r ≠ hs ∧ r ≠ ha) :
    SR o1 S hs hw ha hc (fun k => if k = a then r else W k) C V B (stk s a p) l := by
  refine hR.wrd (s' := stk s a p) ha9 hw9 ho ?_ hr1 rfl rfl rfl rfl rfl rfl (fun k hk => ⟨if_neg hk, fun i hi => if_neg (fun z => hk z.1)⟩)
  rw [show g_len (stk s a p) a = g_len s a - 1 from if_pos rfl]
  refine hr.congr (fun k hk => ?_)
  show _ = nI (if a = a ∧ p ≤ k then g_wd s a (k + 1) else g_wd s a k)
  by_cases e : k < p
  · rw [if_pos e, if_neg (fun z => by have := z.2; omega)]
  · rw [if_neg e, if_pos ⟨rfl, by omega⟩]
/-- a wish more -/
theorem sr_adds {c x r : Nat} (hR : SR o S hs hw ha hc W C V B s l) (hc9 : c < g_nC s) (hw9 : Wr o o1 (C c)) (ho : OB o1 (C c) 4 [.int (l_coin l c), .int (g_bar s c), .int (l_paid l c), .ref r, .ref (B c)]) (hr : IA o1 r (g_many s c + 1) (fun k => if k = g_many s c then nI x else nI (g_wish s c k))) (hr1 : r ≠ hs ∧ r ≠ ha) :
    SR o1 S hs hw ha hc W C (fun k => if k = c then r else V k) B (adds s c x) l := by
  refine hR.obj (s' := adds s c x) (l' := l) hc9 hw9 ho ?_ hr1 rfl rfl rfl rfl rfl rfl rfl rfl (fun k hk => ⟨rfl, rfl, rfl, if_neg hk, fun i => if_neg (fun z => hk z.1)⟩)
  rw [show g_many (adds s c x) c = g_many s c + 1 from if_pos rfl]
  refine hr.congr (fun k hk => ?_)
  show _ = nI (if c = c ∧ k = g_many s c then x else g_wish s c k)
  by_cases e : k = g_many s c
  · rw [if_pos e, if_pos ⟨rfl, e⟩]
  · rw [if_neg e, if_neg (fun z => e z.2)]
/-- a wish less -/
theorem sr_drp {c p r : Nat} (hR : SR o S hs hw ha hc W C V B s l) (hc9 : c < g_nC s) (hw9 : Wr o o1 (C c)) (ho : OB o1 (C c) 4 [.int (l_coin l c), .int (g_bar s c), .int (l_paid l c), .ref r, .ref (B c)]) (hr : IA o1 r (g_many s c - 1) (fun k => if k < p then nI (g_wish s c k) else nI (g_wish s c (k + 1)))) (hr1 : r ≠ hs ∧ r ≠ ha) :
    SR o1 S hs hw ha hc W C (fun k => if k = c then r else V k) B (drp s c p) l := by
  refine hR.obj (s' := drp s c p) (l' := l) hc9 hw9 ho ?_ hr1 rfl rfl rfl rfl rfl rfl rfl rfl (fun k hk => ⟨rfl, rfl, rfl, if_neg hk, fun i => if_neg (fun z => hk z.1)⟩)
  rw [show g_many (drp s c p) c = g_many s c - 1 from if_pos rfl]
  refine hr.congr (fun k hk => ?_)
  show _ = nI (if c = c ∧ p ≤ k then g_wish s c (k + 1) else g_wish s c k)
  by_cases e : k < p
  · rw [if_pos e, if_neg (fun z => by have := z.2; omega)]
  · rw [if_neg e, if_pos ⟨rfl, by omega⟩]
end SRV
