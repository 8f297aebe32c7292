/-! The law's own bureau behind each change. -/
def setP (l : LSt) (c : Nat) (x : Int32) : LSt := (l_age l, l_coin l, (fun k => if k = c then x else l_paid l k), l_sent l, l_rnd l)
def setN (l : LSt) (c m : Nat) : LSt := (l_age l, l_coin l, l_paid l, (fun k => if k = c then m else l_sent l k), l_rnd l)
theorem book_is (l : LSt) (c a : Nat) (p : Int32) : book l c a p = setN (setP (setC l c (l_coin l c - p)) c (l_paid l c + p)) c (l_sent l c ||| 2 ^ a) := rfl
/-- int arrays stay, but for one -/
def KI (o o1 : dp_O) (e : Nat → Prop) : Prop := ∀ h m v, ¬ e h → IA o h m v → IA o1 h m v
theorem KI.refl (o : dp_O) (e : Nat → Prop) : KI o o e := fun _ _ _ _ h => h
theorem KI.trans {o o1 o2 : dp_O} {e : Nat → Prop} (h1 : KI o o1 e) (h2 : KI o1 o2 e) : KI o o2 e := fun h m v he hi => h2 h m v he (h1 h m v he hi)
theorem KI.weak {o o1 : dp_O} {e e' : Nat → Prop} (h1 : KI o o1 e) (h : ∀ k, e k → e' k) : KI o o1 e' := fun k m v he hi => h1 k m v (fun z => he (h k z)) hi
theorem Kp.ki {o o1 : dp_O} {e : Nat → Prop} (hk : Kp o o1) : KI o o1 e := fun _ _ _ _ hi => hi.kp hk
theorem Wr.kiO {o o1 : dp_O} {h ci : Nat} {fs : List Value} {e : Nat → Prop} (hw : Wr o o1 h) (ho : OB o h ci fs) : KI o o1 e := fun _ _ _ _ hi => hi.wr hw (hi.ne_O ho)
theorem Wr.kiB {o o1 : dp_O} {h m : Nat} {v : Nat → Int32} {e : Nat → Prop} (hw : Wr o o1 h) (ho : BA o h m v) : KI o o1 e := fun _ _ _ _ hi => hi.wr hw (hi.ne_B ho)
theorem Wr.kiR {o o1 : dp_O} {h m : Nat} {b : Bool} {v : Nat → Nat} {e : Nat → Prop} (hw : Wr o o1 h) (ho : RW o b h m v) : KI o o1 e := fun _ _ _ _ hi => hi.wr hw (hi.ne_R ho)
theorem Wr.kiI {o o1 : dp_O} {h : Nat} (hw : Wr o o1 h) : KI o o1 (fun k => k = h) := fun _ _ _ he hi => hi.wr hw he
section SRU
variable {o o1 : dp_O} {S hs hw ha hc : Nat} {W C V B : Nat → Nat} {s s' : GSt} {l l' : LSt}
/-- a client's object is set -/
theorem SR.obj {c v' : Nat} (hR : SR o S hs hw ha hc W C V B s l) (hc9 : c < g_nC s) (hw9 : Wr o o1 (C c)) (ho : OB o1 (C c) 4 [.int (l_coin l' c), .int (g_bar s' c), .int (l_paid l' c), .ref v', .ref (B c)])
    (hv : IA o1 v' (g_many s' c) (fun k => nI (g_wish s' c k))) (hv1 : v' ≠ hs ∧ v' ≠ ha) (e1 : g_nA s' = g_nA s) (e2 : g_nC s' = g_nC s) (e3 : g_st s' = g_st s) (e4 : g_len s' = g_len s) (e5 : g_wd s' = g_wd s) (e6 : l_age l' = l_age l) (e7 : l_rnd l' = l_rnd l) (e8 : l_sent l' = l_sent l)
    (e9 : ∀ k, k ≠ c → l_coin l' k = l_coin l k ∧ g_bar s' k = g_bar s k ∧ l_paid l' k = l_paid l k ∧ g_many s' k = g_many s k ∧ ∀ i, g_wish s' k i = g_wish s k i) :
    SR o1 S hs hw ha hc W C (fun k => if k = c then v' else V k) B s' l' := by
  have hC := hR.cl c hc9
  unfold SR
  rw [e1, e2, e3, e4, e5, e6, e7, e8]
  refine ⟨hR.ob.wr hw9 (hC.ne_c hR.ob).symm, hR.st.wr hw9 (hR.st.ne_O hC), hR.rw.wr hw9 (hR.rw.ne_O hC), fun a h => (hR.wd a h).wr hw9 ((hR.wd a h).ne_O hC), hR.age.wr hw9 (hR.age.ne_O hC), hR.rc.wr hw9 (hR.rc.ne_O hC), fun k hk => ?_, fun k hk => ?_, fun k hk => (hR.se k hk).wr hw9 ((hR.se k hk).ne_O hC), hR.d1, hR.d2, fun k hk => ?_, fun i k hi hk => hR.d4 hi hk, fun i k hi hk => hR.d5 hi hk⟩
  · by_cases e : k = c
    · subst e
      simp only [if_pos]
      exact ho
    · obtain ⟨q1, q2, q3, q4, q5⟩ := e9 k e
      simp only [if_neg e]
      rw [q1, q2, q3]
      exact (hR.cl k hk).wr hw9 (fun z => e (hR.d4 hk hc9 z))
  · by_cases e : k = c
    · subst e
      simp only [if_pos]
      exact hv
    · obtain ⟨q1, q2, q3, q4, q5⟩ := e9 k e
      simp only [if_neg e]
      rw [q4]
      exact ((hR.wi k hk).wr hw9 ((hR.wi k hk).ne_O hC)).congr (fun i _ => by rw [q5])
  · by_cases e : k = c
    · simp only [if_pos e]
      exact hv1
    · simp only [if_neg e]
      exact hR.d3 k hk
theorem SR.obj0 {c : Nat} (hR : SR o S hs hw ha hc W C V B s l) (hc9 : c < g_nC s) (hw9 : Wr o o1 (C c)) (ho : OB o1 (C c) 4 [.int (l_coin l' c), .int (g_bar s' c), .int (l_paid l' c), .ref (V c), .ref (B c)])
    (e1 : g_nA s' = g_nA s) (e2 : g_nC s' = g_nC s) (e3 : g_st s' = g_st s) (e4 : g_len s' = g_len s) (e5 : g_wd s' = g_wd s) (e6 : l_age l' = l_age l) (e7 : l_rnd l' = l_rnd l) (e8 : l_sent l' = l_sent l) (e10 : g_many s' = g_many s) (e11 : g_wish s' = g_wish s)
    (e9 : ∀ k, k ≠ c → l_coin l' k = l_coin l k ∧ g_bar s' k = g_bar s k ∧ l_paid l' k = l_paid l k) : SR o1 S hs hw ha hc W C V B s' l' := by
  have h := hR.obj (s' := s') (l' := l') hc9 hw9 ho (by rw [e10, e11]; exact (hR.wi c hc9).wr hw9 ((hR.wi c hc9).ne_O (hR.cl c hc9))) (hR.d3 c hc9) e1 e2 e3 e4 e5 e6 e7 e8 (fun k hk => ⟨(e9 k hk).1, (e9 k hk).2.1, (e9 k hk).2.2, by rw [e10], fun i => by rw [e11]⟩)
  have e : (fun k => if k = c then V c else V k) = V := funext fun k => by
    by_cases hk : k = c
    · rw [if_pos hk, hk]
    · rw [if_neg hk]
  rw [e] at h
  exact h
theorem SR.coin {c : Nat} {x : Int32} (hR : SR o S hs hw ha hc W C V B s l) (hc9 : c < g_nC s) (hw9 : Wr o o1 (C c)) (ho : OB o1 (C c) 4 [.int x, .int (g_bar s c), .int (l_paid l c), .ref (V c), .ref (B c)]) : SR o1 S hs hw ha hc W C V B s (setC l c x) :=
  hR.obj0 (l' := setC l c x) (s' := s) hc9 hw9 (by
    have e : l_coin (setC l c x) c = x := if_pos rfl
    rw [e]
    exact ho) rfl rfl rfl rfl rfl rfl rfl rfl rfl rfl (fun k hk => ⟨if_neg hk, rfl, rfl⟩)
theorem SR.pd {c : Nat} {x : Int32} (hR : SR o S hs hw ha hc W C V B s l) (hc9 : c < g_nC s) (hw9 : Wr o o1 (C c)) (ho : OB o1 (C c) 4 [.int (l_coin l c), .int (g_bar s c), .int x, .ref (V c), .ref (B c)]) : SR o1 S hs hw ha hc W C V B s (setP l c x) :=
  hR.obj0 (l' := setP l c x) (s' := s) hc9 hw9 (by
    have e : l_paid (setP l c x) c = x := if_pos rfl
    rw [e]
    exact ho) rfl rfl rfl rfl rfl rfl rfl rfl rfl rfl (fun k hk => ⟨rfl, rfl, if_neg hk⟩)
theorem SR.bar {c : Nat} {x : Int32} (hR : SR o S hs hw ha hc W C V B s l) (hc9 : c < g_nC s) (hw9 : Wr o o1 (C c)) (ho : OB o1 (C c) 4 [.int (l_coin l c), .int x, .int (l_paid l c), .ref (V c), .ref (B c)]) : SR o1 S hs hw ha hc W C V B (setB s c x) l :=
  hR.obj0 (l' := l) (s' := setB s c x) hc9 hw9 (by
    have e : g_bar (setB s c x) c = x := if_pos rfl
    rw [e]
    exact ho) rfl rfl rfl rfl rfl rfl rfl rfl rfl rfl (fun k hk => ⟨rfl, if_neg hk, rfl⟩)
/-- a client was sent an article -/
theorem SR.snt {c a : Nat} (hR : SR o S hs hw ha hc W C V B s l) (hc9 : c < g_nC s) (hw9 : Wr o o1 (B c)) (ho : BA o1 (B c) 16 (fun k => if k = a then nI 1 else bl (bit (l_sent l c) k))) : SR o1 S hs hw ha hc W C V B s (setN l c (l_sent l c ||| 2 ^ a)) := by
  have hB := hR.se c hc9
  refine ⟨hR.ob.wr hw9 (hB.ne_O hR.ob).symm, hR.st.wr hw9 (hR.st.ne_B hB), hR.rw.wr hw9 (hB.ne_R hR.rw).symm, fun a h => (hR.wd a h).wr hw9 ((hR.wd a h).ne_B hB), hR.age.wr hw9 (hR.age.ne_B hB), hR.rc.wr hw9 (hB.ne_R hR.rc).symm, fun k hk => (hR.cl k hk).wr hw9 (hB.ne_O (hR.cl k hk)).symm, fun k hk => (hR.wi k hk).wr hw9 ((hR.wi k hk).ne_B hB), fun k hk => ?_, hR.d1, hR.d2, hR.d3, fun i k hi hk => hR.d4 hi hk, fun i k hi hk => hR.d5 hi hk⟩
  by_cases e : k = c
  · subst e
    refine ho.congr (fun j hj => ?_)
    show _ = bl (bit (if k = k then _ else _) j)
    rw [if_pos rfl, bit_or]
    by_cases e2 : j = a
    · subst e2
      rw [if_pos rfl]
      simp [bl]
    · rw [if_neg e2]
      simp [show ¬ a = j from fun z => e2 z.symm]
  · refine ((hR.se k hk).wr hw9 (fun z => e (hR.d5 hk hc9 z))).congr (fun j hj => ?_)
    show _ = bl (bit (if k = c then _ else _) j)
    rw [if_neg e]
/-- an article is older -/
theorem SR.old {i : Nat} (hR : SR o S hs hw ha hc W C V B s (oldp l i)) (hi : i < 16) (hw9 : Wr o o1 ha) (ho : IA o1 ha 16 (fun k => if k = i then l_age l i + nI 1 else l_age (oldp l i) k)) : SR o1 S hs hw ha hc W C V B s (oldp l (i + 1)) := by
  have hA := hR.age
  refine ⟨hR.ob.wr hw9 (hA.ne_O hR.ob).symm, hR.st.wr hw9 hR.d1, hR.rw.wr hw9 (hA.ne_R hR.rw).symm, fun a h => (hR.wd a h).wr hw9 (hR.d2 a h).2, ho.congr (fun k hk => ?_), hR.rc.wr hw9 (hA.ne_R hR.rc).symm, fun k hk => (hR.cl k hk).wr hw9 (hA.ne_O (hR.cl k hk)).symm, fun k hk => (hR.wi k hk).wr hw9 (hR.d3 k hk).2, fun k hk => (hR.se k hk).wr hw9 (hA.ne_B (hR.se k hk)).symm, hR.d1, hR.d2, hR.d3, fun i k hi hk => hR.d4 hi hk, fun i k hi hk => hR.d5 hi hk⟩
  show (if k = i then _ else (if k < i then l_age l k + nI 1 else l_age l k)) = if k < i + 1 then l_age l k + nI 1 else l_age l k
  by_cases e : k = i
  · rw [if_pos e, if_pos (show k < i + 1 by omega), e]
  · rw [if_neg e]
    by_cases e2 : k < i
    · rw [if_pos e2, if_pos (show k < i + 1 by omega)]
    · rw [if_neg e2, if_neg (show ¬ k < i + 1 by omega)]
theorem SR.oat {i : Nat} : l_age (oldp l i) i = l_age l i := if_neg (Nat.lt_irrefl i)
/-- the object of the bureau is set -/
theorem SR.set {hw' hc' : Nat} {W' C' V' B' : Nat → Nat} {r : Int32} (hR : SR o S hs hw ha hc W C V B s l) (hw9 : Wr o o1 S) (ho : OB o1 S 5 [.ref hs, .ref hw', .ref ha, .ref hc', .int r]) (e0 : l_rnd l' = r)
    (h3 : RW o false hw' (g_nA s') W') (h4 : ∀ a, a < g_nA s' → IA o (W' a) (g_len s' a) (fun k => nI (g_wd s' a k))) (h6 : RW o true hc' (g_nC s') C')
    (h7 : ∀ c, c < g_nC s' → OB o (C' c) 4 [.int (l_coin l' c), .int (g_bar s' c), .int (l_paid l' c), .ref (V' c), .ref (B' c)]) (h8 : ∀ c, c < g_nC s' → IA o (V' c) (g_many s' c) (fun k => nI (g_wish s' c k))) (h9 : ∀ c, c < g_nC s' → BA o (B' c) 16 (fun a => bl (bit (l_sent l' c) a)))
    (e3 : g_st s' = g_st s) (e6 : l_age l' = l_age l) (d2 : ∀ a, a < g_nA s' → W' a ≠ hs ∧ W' a ≠ ha) (d3 : ∀ c, c < g_nC s' → V' c ≠ hs ∧ V' c ≠ ha) (d4 : ∀ c k, c < g_nC s' → k < g_nC s' → C' c = C' k → c = k) (d5 : ∀ c k, c < g_nC s' → k < g_nC s' → B' c = B' k → c = k) :
    SR o1 S hs hw' ha hc' W' C' V' B' s' l' := by
  have hO := hR.ob
  refine ⟨by rw [e0]; exact ho, by rw [e3]; exact hR.st.wr hw9 (hR.st.ne_O hO), h3.wr hw9 (h3.ne_O hO), fun a h => (h4 a h).wr hw9 ((h4 a h).ne_O hO), by rw [e6]; exact hR.age.wr hw9 (hR.age.ne_O hO), h6.wr hw9 (h6.ne_O hO), fun k hk => (h7 k hk).wr hw9 ((h7 k hk).ne_c hO), fun k hk => (h8 k hk).wr hw9 ((h8 k hk).ne_O hO), fun k hk => (h9 k hk).wr hw9 ((h9 k hk).ne_O hO), hR.d1, d2, d3, d4, d5⟩
theorem SR.rnd {r : Int32} (hR : SR o S hs hw ha hc W C V B s l) (hw9 : Wr o o1 S) (ho : OB o1 S 5 [.ref hs, .ref hw, .ref ha, .ref hc, .int r]) (e0 : r = l_rnd l + nI 1) : SR o1 S hs hw ha hc W C V B s (rnd1 l) :=
  hR.set (s' := s) (l' := rnd1 l) hw9 ho e0.symm hR.rw hR.wd hR.rc hR.cl hR.wi hR.se rfl rfl hR.d2 hR.d3 (fun _ _ h1 h2 => hR.d4 h1 h2) (fun _ _ h1 h2 => hR.d5 h1 h2)
/-- a stem is set -/
theorem SR.sst {a b : Nat} (hR : SR o S hs hw ha hc W C V B s l) (hw9 : Wr o o1 hs) (ho : IA o1 hs 40 (fun k => if k = a then nI b else nI (g_st s k))) : SR o1 S hs hw ha hc W C V B (setSt s a b) l := by
  have hA := hR.st
  refine ⟨hR.ob.wr hw9 (hA.ne_O hR.ob).symm, ho.congr (fun k hk => ?_), hR.rw.wr hw9 (hA.ne_R hR.rw).symm, fun a h => (hR.wd a h).wr hw9 (hR.d2 a h).1, hR.age.wr hw9 hR.d1.symm, hR.rc.wr hw9 (hA.ne_R hR.rc).symm, fun k hk => (hR.cl k hk).wr hw9 (hA.ne_O (hR.cl k hk)).symm, fun k hk => (hR.wi k hk).wr hw9 (hR.d3 k hk).1, fun k hk => (hR.se k hk).wr hw9 (hA.ne_B (hR.se k hk)).symm, hR.d1, hR.d2, hR.d3, fun i k hi hk => hR.d4 hi hk, fun i k hi hk => hR.d5 hi hk⟩
  show _ = nI (if k = a then b else g_st s k)
  by_cases e : k = a
  · rw [if_pos e, if_pos e]
  · rw [if_neg e, if_neg e]
/-- an article's words are another row -/
theorem SR.wrd {a r : Nat} (hR : SR o S hs hw ha hc W C V B s l) (ha9 : a < g_nA s) (hw9 : Wr o o1 hw) (ho : RW o1 false hw (g_nA s) (fun k => if k = a then r else W k)) (hr : IA o r (g_len s' a) (fun k => nI (g_wd s' a k))) (hr1 : r ≠ hs ∧ r ≠ ha)
    (e1 : g_nA s' = g_nA s) (e2 : g_nC s' = g_nC s) (e3 : g_st s' = g_st s) (e4 : g_bar s' = g_bar s) (e5 : g_many s' = g_many s) (e6 : g_wish s' = g_wish s) (e9 : ∀ k, k ≠ a → g_len s' k = g_len s k ∧ ∀ i, i < g_len s k → g_wd s' k i = g_wd s k i) :
    SR o1 S hs hw ha hc (fun k => if k = a then r else W k) C V B s' l := by
  have hA := hR.rw
  unfold SR
  rw [e1, e2, e3, e4, e5, e6]
  refine ⟨hR.ob.wr hw9 (hA.ne_O hR.ob).symm, hR.st.wr hw9 (hR.st.ne_R hA), ho, fun k h => ?_, hR.age.wr hw9 (hR.age.ne_R hA), hR.rc.wr hw9 (hA.ne_b hR.rc).symm, fun k hk => (hR.cl k hk).wr hw9 (hA.ne_O (hR.cl k hk)).symm, fun k hk => (hR.wi k hk).wr hw9 ((hR.wi k hk).ne_R hA), fun k hk => (hR.se k hk).wr hw9 ((hR.se k hk).ne_R hA), hR.d1, fun k hk => ?_, hR.d3, fun i k hi hk => hR.d4 hi hk, fun i k hi hk => hR.d5 hi hk⟩
  · by_cases e : k = a
    · subst e
      simp only [if_pos]
      exact hr.wr hw9 (hr.ne_R hA)
    · simp only [if_neg e]
      rw [(e9 k e).1]
      exact ((hR.wd k h).wr hw9 ((hR.wd k h).ne_R hA)).congr (fun i hi => by rw [(e9 k e).2 i hi])
  · by_cases e : k = a
    · simp only [if_pos e]
      exact hr1
    · simp only [if_neg e]
      exact hR.d2 k hk
end SRU
