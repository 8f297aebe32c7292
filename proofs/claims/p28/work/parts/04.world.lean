/-! The world: the claim's cells by handles, over the heap; and what is fixed around it. -/
abbrev dp_G : Type := va_G × ClassId × ClassId × ClassId × ClassId
abbrev T3 (g : dp_G) : List (ClassId × FieldType) := [(g.2.1, .int), (g.2.2.1, .boolean), (g.2.2.2.1, .array .int), (g.2.2.2.2, .object RX4)]
def dp_cv (ad : Nat → Nat) : Value → Value
  | .ref k => .ref (ad k)
  | v => v
theorem dp_cv_cat (ad : Nat → Nat) (v : Value) : (dp_cv ad v).category = v.category := by cases v <;> rfl
def dp_out (ad : Nat → Nat) (k N : Nat) : Nat → Option Nat := fun j => if j < N then some (ad (k + j)) else none
/-- a cell of the class -/
def dp_cel (g : dp_G) (ad : Nat → Nat) (M : dp_M) (h : Nat) : va_E := match dp_obj M h with
  | some q => .inr (q.1, q.2.map (dp_cv ad))
  | none => if h = 7 then .inl (g.2.2.2.1, 16, .inr (.inr (.inr (.inr (dp_out ad 27 16))))) else if h = 9 then .inl (g.2.2.2.1, 16, .inr (.inr (.inr (.inr (dp_out ad 43 16)))))
    else if h = 11 then .inl (g.2.2.2.1, 6, .inr (.inr (.inr (.inr (dp_out ad 59 6))))) else .inl (g.2.1, dp_len h, .inl (M h))
/-- a cell made -/
def dp_cec (g : dp_G) (ad : Nat → Nat) : dp_Ce → va_E
  | .inl q => .inr (q.1, q.2.map (dp_cv ad))
  | .inr (.inl q) => .inl (if q.1 then g.2.2.1 else g.2.1, q.2.1, .inl q.2.2)
  | .inr (.inr q) => .inl (if q.1 then g.2.2.2.2 else g.2.2.2.1, q.2.1, .inr (.inr (.inr (.inr fun j => (q.2.2 j).map ad))))
def dp_hs : List Nat := List.range 22 ++ List.range' 27 38
def dp_pos (h : Nat) : Nat := if h < 22 then h else h - 5
def dp_wl (g : dp_G) (ad : Nat → Nat) (M : dp_M) : va_W := dp_hs.map fun h => (ad h, dp_cel g ad M h)
abbrev dp_D : Type := List (Nat × dp_Ce)
def dp_dl (g : dp_G) (ad : Nat → Nat) (ds : dp_D) : va_W := ds.map fun p => (p.1 - 10000, dp_cec g ad p.2)
def dp_ww (g : dp_G) (ad : Nat → Nat) (M : dp_M) (ds : dp_D) : va_W := dp_wl g ad M ++ dp_dl g ad ds
/-- what is known of the cells made stands in the list -/
def dp_rep (o : dp_O) (ds : dp_D) : Prop := ∀ (h : Nat) (c : dp_Ce), o h = some c → 10000 ≤ h ∧ ∃ k : Nat, ds[k]? = some (h, c)
def dp_adk (ad : Nat → Nat) (b : Nat) : Prop := ad 1000 = b ∧ ∀ a, ad (10000 + a) = a
theorem dp_adk.of {ad : Nat → Nat} {b h : Nat} (hk : dp_adk ad b) (h1 : 10000 ≤ h) : ad h = h - 10000 := by
  have := hk.2 (h - 10000)
  rwa [show 10000 + (h - 10000) = h by omega] at this
theorem dp_isA_or (h : Nat) : dp_isA h = true ∨ h = 0 ∨ h = 1 ∨ h = 2 ∨ h = 3 ∨ h = 4 ∨ h = 7 ∨ h = 9 ∨ h = 11 ∨ (22 ≤ h ∧ h < 27) := by
  simp only [dp_isA, Bool.not_eq_true', Bool.or_eq_false_iff, beq_eq_false_iff_ne]
  omega
theorem dp_obj_A {M : dp_M} {h : Nat} (hA : dp_isA h = true) : dp_obj M h = none := by
  unfold dp_obj
  split <;> first | rfl | (exfalso; revert hA; decide)
theorem dp_cel_A {g : dp_G} {ad : Nat → Nat} {M : dp_M} {h : Nat} (hA : dp_isA h = true) : dp_cel g ad M h = .inl (g.2.1, dp_len h, .inl (M h)) := by
  have hn : h ≠ 7 ∧ h ≠ 9 ∧ h ≠ 11 := by
    refine ⟨?_, ?_, ?_⟩ <;> (intro e; subst e; revert hA; decide)
  unfold dp_cel
  rw [dp_obj_A hA]
  simp only [hn.1, hn.2.1, hn.2.2, if_false]
theorem dp_obj_m {M : dp_M} {h : Nat} (h1 : 22 ≤ h) : dp_obj M h = none := by
  unfold dp_obj
  split <;> first | rfl | (exfalso; omega)
theorem dp_cel_ext {g : dp_G} {ad : Nat → Nat} {M M' : dp_M} {h : Nat} (e : ∀ j, M h j = M' h j) : dp_cel g ad M h = dp_cel g ad M' h := by
  rcases dp_isA_or h with hA | rfl | rfl | rfl | rfl | rfl | rfl | rfl | rfl | ⟨h1, h2⟩
  · rw [dp_cel_A hA, dp_cel_A hA, show M h = M' h from funext e]
  · rfl
  · simp only [dp_cel, dp_obj, e 5]
  · simp only [dp_cel, dp_obj, e 3]
  · simp only [dp_cel, dp_obj, e 4]
  · simp only [dp_cel, dp_obj, e 4]
  · rfl
  · rfl
  · rfl
  · unfold dp_cel
    rw [dp_obj_m h1, dp_obj_m h1, show M h = M' h from funext e]
theorem dp_wl_len {g : dp_G} {ad : Nat → Nat} {M : dp_M} : (dp_wl g ad M).length = 60 := by simp [dp_wl, dp_hs]
theorem dp_hs_at : ∀ h, h < 65 → (h < 22 ∨ 27 ≤ h) → dp_hs[dp_pos h]? = some h ∧ dp_pos h < 60 := by decide +kernel
theorem dp_hs_pos : ∀ k, k < 60 → ∃ h, h < 65 ∧ dp_hs[k]? = some h ∧ dp_pos h = k ∧ (h < 22 ∨ 27 ≤ h) := by decide +kernel
theorem dp_wl_at {g : dp_G} {ad : Nat → Nat} {M : dp_M} {ds : dp_D} {h : Nat} (hh : h < 65) (hk : h < 22 ∨ 27 ≤ h) : (dp_ww g ad M ds)[dp_pos h]? = some (ad h, dp_cel g ad M h) := by
  obtain ⟨h1, h2⟩ := dp_hs_at h hh hk
  unfold dp_ww
  rw [List.getElem?_append_left (by rw [dp_wl_len]; exact h2)]
  unfold dp_wl
  rw [List.getElem?_map, h1]
  rfl
theorem dp_isA_k {h : Nat} (hA : dp_isA h = true) : h < 22 ∨ 27 ≤ h := by
  simp only [dp_isA, Bool.not_eq_true', Bool.or_eq_false_iff, beq_eq_false_iff_ne] at hA
  omega
theorem dp_obj_k {M : dp_M} {h : Nat} {q : Nat × List Value} (hq : dp_obj M h = some q) : h < 22 ∨ 27 ≤ h := by
  rcases Nat.lt_or_ge h 22 with h1 | h1
  · exact Or.inl h1
  · rw [dp_obj_m h1] at hq
    cases hq
theorem dp_wl_A {g : dp_G} {ad : Nat → Nat} {M : dp_M} {ds : dp_D} {h : Nat} (hh : h < 65) (hA : dp_isA h = true) : (dp_ww g ad M ds)[dp_pos h]? = some (ad h, .inl (g.2.1, dp_len h, .inl (M h))) := by
  rw [dp_wl_at hh (dp_isA_k hA), dp_cel_A hA]
theorem dp_dl_at {g : dp_G} {ad : Nat → Nat} {M : dp_M} {ds : dp_D} {k h : Nat} {c : dp_Ce} (hk : ds[k]? = some (h, c)) : (dp_ww g ad M ds)[60 + k]? = some (h - 10000, dp_cec g ad c) := by
  unfold dp_ww
  rw [List.getElem?_append_right (by rw [dp_wl_len]; omega), dp_wl_len, Nat.add_sub_cancel_left]
  unfold dp_dl
  rw [List.getElem?_map, hk]
  rfl
theorem dp_set {g : dp_G} {ad : Nat → Nat} {M M' : dp_M} {ds : dp_D} {h : Nat} {e : va_E} (hh : h < 65) (hk0 : h < 22 ∨ 27 ≤ h) (he : e = dp_cel g ad M' h) (hk : ∀ j, j ≠ h → dp_cel g ad M j = dp_cel g ad M' j) : (dp_ww g ad M ds).set (dp_pos h) (ad h, e) = dp_ww g ad M' ds := by
  obtain ⟨h1, h2⟩ := dp_hs_at h hh hk0
  unfold dp_ww
  rw [List.set_append_left _ _ (by rw [dp_wl_len]; exact h2)]
  congr 1
  apply List.ext_getElem?
  intro j
  by_cases hj : j < 60
  · obtain ⟨h', g3, g1, g2, g4⟩ := dp_hs_pos j hj
    have e1 : ∀ N : dp_M, (dp_wl g ad N)[j]? = some (ad h', dp_cel g ad N h') := fun N => by
      unfold dp_wl
      rw [List.getElem?_map, g1]
      rfl
    by_cases hjh : h' = h
    · subst hjh
      rw [g2, List.getElem?_set_self (by rw [dp_wl_len]; exact hj), e1, he]
    · have hne : dp_pos h ≠ j := fun z => hjh (by
        rw [z] at h1
        rw [h1] at g1
        exact (Option.some.inj g1).symm)
      rw [List.getElem?_set_ne hne, e1, e1, hk h' hjh]
  · rw [List.getElem?_eq_none (by rw [List.length_set, dp_wl_len]; omega), List.getElem?_eq_none (by rw [dp_wl_len]; omega)]
theorem dp_row_s (M : dp_M) (h : Nat) (f : Nat → Int32) : dp_row M h f h = f := by funext j; simp [dp_row]
theorem dp_row_n (M : dp_M) {h a : Nat} (f : Nat → Int32) (ha : a ≠ h) : dp_row M h f a = M a := by funext j; simp [dp_row, ha]
theorem dp_set_A {g : dp_G} {ad : Nat → Nat} {M : dp_M} {ds : dp_D} {h : Nat} {f : Nat → Int32} (hh : h < 65) (hA : dp_isA h = true) : (dp_ww g ad M ds).set (dp_pos h) (ad h, .inl (g.2.1, dp_len h, .inl f)) = dp_ww g ad (dp_row M h f) ds :=
  dp_set hh (dp_isA_k hA) (by rw [dp_cel_A hA, dp_row_s]) (fun j hj => dp_cel_ext (fun i => by rw [dp_row_n M f hj]))
theorem dp_up_row (M : dp_M) (h k : Nat) (x : Int32) : dp_row M h (upd (M h) k x) = dp_up M h k x := by
  funext a j
  unfold dp_row dp_up upd
  by_cases ha : a = h
  · subst ha
    by_cases hj : j = k <;> simp [hj]
  · simp [ha]
theorem dp_gtv_get : ∀ (l : List Value) (k : Nat) (v : Value), dp_gtv l k = some v → l[k]? = some v
  | [], _, _, h => by cases h
  | a :: t, 0, v, h => by simpa [dp_gtv] using h
  | a :: t, k + 1, v, h => by
    rw [List.getElem?_cons_succ]
    exact dp_gtv_get t k v h
/-- a field of an object is set -/
theorem dp_set_F {g : dp_G} {ad : Nat → Nat} {M : dp_M} {ds : dp_D} {h k : Nat} {q : Nat × List Value} {x w : Int32} (hh : h < 65) (hq : dp_obj M h = some q) (hk : dp_gtv q.2 k = some (.int w)) : (dp_ww g ad M ds).set (dp_pos h) (ad h, .inr (q.1, (q.2.map (dp_cv ad)).set k (.int x))) = dp_ww g ad (dp_up M h k x) ds := by
  refine dp_set hh (dp_obj_k hq) ?_ (fun j hj => dp_cel_ext (fun i => by unfold dp_up; rw [if_neg (fun z => hj z.1)]))
  rcases dp_isA_or h with hA | rfl | rfl | rfl | rfl | rfl | rfl | rfl | rfl | ⟨h1, h2⟩
  · rw [dp_obj_A hA] at hq; cases hq
  · cases hq
    match k, hk with
    | 0, hk => cases hk
    | 1, hk => cases hk
    | 2, hk => cases hk
    | 3, hk => cases hk
    | 4, hk => cases hk
    | k + 5, hk => cases hk
  · cases hq
    match k, hk with
    | 0, hk => cases hk
    | 1, hk => cases hk
    | 2, hk => cases hk
    | 3, hk => cases hk
    | 4, hk => cases hk
    | 5, hk => rfl
    | k + 6, hk => cases hk
  · cases hq
    match k, hk with
    | 0, hk => cases hk
    | 1, hk => cases hk
    | 2, hk => cases hk
    | 3, hk => rfl
    | k + 4, hk => cases hk
  · cases hq
    match k, hk with
    | 0, hk => cases hk
    | 1, hk => cases hk
    | 2, hk => cases hk
    | 3, hk => cases hk
    | 4, hk => rfl
    | k + 5, hk => cases hk
  · cases hq
    match k, hk with
    | 0, hk => cases hk
    | 1, hk => cases hk
    | 2, hk => cases hk
    | 3, hk => cases hk
    | 4, hk => rfl
    | k + 5, hk => cases hk
  · cases hq
  · cases hq
  · cases hq
  · rw [dp_obj_m h1] at hq; cases hq
/-- a cell made is set -/
theorem dp_dset {g : dp_G} {ad : Nat → Nat} {M : dp_M} {ds : dp_D} {h k : Nat} {c : dp_Ce} : (dp_ww g ad M ds).set (60 + k) (h - 10000, dp_cec g ad c) = dp_ww g ad M (ds.set k (h, c)) := by
  unfold dp_ww
  rw [List.set_append_right _ _ (by rw [dp_wl_len]; omega), dp_wl_len, Nat.add_sub_cancel_left]
  congr 1
  unfold dp_dl
  rw [List.map_set]
theorem dp_rset {o : dp_O} {ds : dp_D} {h k : Nat} {c c0 : dp_Ce} (hr : dp_rep o ds) (hk : ds[k]? = some (h, c0)) (h1 : 10000 ≤ h) : dp_rep (dp_ou o h c) (ds.set k (h, c)) := by
  intro a d hd
  unfold dp_ou at hd
  have hl := (List.getElem?_eq_some_iff.mp hk).1
  by_cases ha : a = h
  · subst ha
    rw [if_pos rfl] at hd
    cases hd
    exact ⟨h1, k, by rw [List.getElem?_set_self hl]⟩
  · rw [if_neg ha] at hd
    obtain ⟨g1, k', g2⟩ := hr a d hd
    refine ⟨g1, k', ?_⟩
    rw [List.getElem?_set_ne (fun z => ha (by
      rw [z] at hk
      rw [hk] at g2
      cases g2
      rfl)), g2]
/-- a cell more -/
theorem dp_dpush {g : dp_G} {ad : Nat → Nat} {M : dp_M} {ds : dp_D} {q : Nat} {c : dp_Ce} : dp_ww g ad M ds ++ [(q, dp_cec g ad c)] = dp_ww g ad M (ds ++ [(10000 + q, c)]) := by
  unfold dp_ww
  rw [List.append_assoc]
  congr 1
  unfold dp_dl
  rw [List.map_append]
  simp only [List.map_cons, List.map_nil, Nat.add_sub_cancel_left]
theorem dp_rpush {o : dp_O} {ds : dp_D} {q : Nat} {c : dp_Ce} (hr : dp_rep o ds) : dp_rep (dp_ou o (10000 + q) c) (ds ++ [(10000 + q, c)]) := by
  intro a d hd
  unfold dp_ou at hd
  by_cases ha : a = 10000 + q
  · subst ha
    rw [if_pos rfl] at hd
    cases hd
    exact ⟨by omega, ds.length, by simp⟩
  · rw [if_neg ha] at hd
    obtain ⟨g1, k', g2⟩ := hr a d hd
    exact ⟨g1, k', by rw [List.getElem?_append_left (List.getElem?_eq_some_iff.mp g2).1, g2]⟩
theorem dp_fresh {g : dp_G} {ad : Nat → Nat} {M : dp_M} {o : dp_O} {ds : dp_D} {A : Nat → Prop} {q : Nat} {e : va_E} (hr : dp_rep o ds) (hD : va_D A (dp_ww g ad M ds ++ [(q, e)])) : o (10000 + q) = none := by
  cases h : o (10000 + q) with
  | none => rfl
  | some c =>
    exfalso
    obtain ⟨-, k, hk⟩ := hr _ _ h
    have h1 := dp_dl_at (g := g) (ad := ad) (M := M) hk
    rw [Nat.add_sub_cancel_left] at h1
    have hl := (List.getElem?_eq_some_iff.mp h1).1
    have h2 : (dp_ww g ad M ds ++ [(q, e)])[60 + k]? = some (q, dp_cec g ad c) := by rw [List.getElem?_append_left hl]; exact h1
    have h3 : (dp_ww g ad M ds ++ [(q, e)])[(dp_ww g ad M ds).length]? = some (q, e) := by simp
    have := hD.1 _ _ _ _ h2 h3 rfl
    omega
/-- the cell at a handle -/
theorem dp_dyn {g : dp_G} {ad : Nat → Nat} {b : Nat} {M : dp_M} {o : dp_O} {ds : dp_D} {h : Nat} {c : dp_Ce} (hr : dp_rep o ds) (ha : dp_adk ad b) (hc : o h = some c) : 10000 ≤ h ∧ ∃ k, ds[k]? = some (h, c) ∧ (dp_ww g ad M ds)[60 + k]? = some (ad h, dp_cec g ad c) := by
  obtain ⟨h1, k, hk⟩ := hr h c hc
  exact ⟨h1, k, hk, by rw [ha.of h1]; exact dp_dl_at hk⟩
-- locals
def dp_LH (ls : Array Slot) (nL : Nat) (ad : Nat → Nat) (L : dp_L) : Prop := ls.size = nL ∧ lv_wf ls ∧ ∀ (i : Nat) (v : Value), dp_gt L i = some v → ls[i]? = some (.val (dp_cv ad v))
def dp_as (ad : Nat → Nat) : Nat → dp_L → List (Nat × Value)
  | _, [] => []
  | i, some v :: t => (i, dp_cv ad v) :: dp_as ad (i + 1) t
  | i, none :: t => dp_as ad (i + 1) t
theorem dp_as_in (ad : Nat → Nat) : ∀ (L : dp_L) (i j : Nat) (v : Value), dp_gt L j = some v → (i + j, dp_cv ad v) ∈ dp_as ad i L
  | [], _, _, _, h => by cases h
  | some w :: t, i, 0, v, h => by
    cases h
    exact List.mem_cons_self
  | none :: t, i, 0, v, h => by cases h
  | some w :: t, i, j + 1, v, h => by
    have := dp_as_in ad t (i + 1) j v h
    rw [show i + (j + 1) = i + 1 + j by omega]
    exact List.mem_cons_of_mem _ this
  | none :: t, i, j + 1, v, h => by
    have := dp_as_in ad t (i + 1) j v h
    rw [show i + (j + 1) = i + 1 + j by omega]
    exact this
theorem dp_as_out (ad : Nat → Nat) : ∀ (L : dp_L) (i : Nat) (p : Nat × Value), p ∈ dp_as ad i L → ∃ j v, dp_gt L j = some v ∧ p = (i + j, dp_cv ad v)
  | [], _, _, h => by cases h
  | some w :: t, i, p, h => by
    rcases List.mem_cons.mp h with rfl | h
    · exact ⟨0, w, rfl, rfl⟩
    · obtain ⟨j, v, h1, h2⟩ := dp_as_out ad t (i + 1) p h
      exact ⟨j + 1, v, h1, by rw [h2, show i + 1 + j = i + (j + 1) by omega]⟩
  | none :: t, i, p, h => by
    obtain ⟨j, v, h1, h2⟩ := dp_as_out ad t (i + 1) p h
    exact ⟨j + 1, v, h1, by rw [h2, show i + 1 + j = i + (j + 1) by omega]⟩
theorem dp_LH.has {ls : Array Slot} {nL : Nat} {ad : Nat → Nat} {L : dp_L} (h : dp_LH ls nL ad L) : lv_has ls nL (dp_as ad 0 L) := by
  refine ⟨h.1, h.2.1, fun p hp => ?_⟩
  obtain ⟨j, v, h1, rfl⟩ := dp_as_out ad L 0 p hp
  have := h.2.2 j v h1
  simpa using this
theorem dp_LH.of {ls : Array Slot} {nL : Nat} {ad : Nat → Nat} {L : dp_L} {l : List (Nat × Value)} (h : lv_has ls nL l) (hl : ∀ j v, dp_gt L j = some v → (j, dp_cv ad v) ∈ l) : dp_LH ls nL ad L :=
  ⟨h.1, h.2.1, fun i v hi => h.2.2 _ (hl i v hi)⟩
theorem dp_s1_gt : ∀ (L : dp_L) (i : Nat) (v : Value) (j : Nat) (w : Value), dp_gt (dp_s1 L i v) j = some w → (j = i ∧ w = v) ∨ (j ≠ i ∧ dp_gt L j = some w ∧ ¬ (j + 1 = i ∧ w.category = 2))
  | [], _, _, _, _, h => by cases h
  | a :: t, 0, v, 0, w, h => by cases h; exact Or.inl ⟨rfl, rfl⟩
  | a :: t, 0, v, j + 1, w, h => Or.inr ⟨by omega, h, by omega⟩
  | a :: t, 1, v, 0, w, h => by
    refine Or.inr ⟨by omega, ?_, ?_⟩
    · have h : dp_c2 a = some w := h
      unfold dp_c2 at h
      split at h <;> first | (cases h; done) | exact h
    · have h : dp_c2 a = some w := h
      unfold dp_c2 at h
      rintro ⟨-, h2⟩
      split at h
      · cases h
      · cases h
      · rename_i n1 n2
        cases w <;> first | (cases h2; done) | exact n1 _ h | exact n2 _ h
  | a :: t, 1, v, j + 1, w, h => by
    have h : dp_gt (dp_s1 t 0 v) j = some w := h
    rcases dp_s1_gt t 0 v j w h with ⟨h1, h2⟩ | ⟨h1, h2, h3⟩
    · exact Or.inl ⟨by omega, h2⟩
    · exact Or.inr ⟨by omega, h2, by omega⟩
  | a :: t, i + 2, v, 0, w, h => Or.inr ⟨by omega, h, by omega⟩
  | a :: t, i + 2, v, j + 1, w, h => by
    have h : dp_gt (dp_s1 t (i + 1) v) j = some w := h
    rcases dp_s1_gt t (i + 1) v j w h with ⟨h1, h2⟩ | ⟨h1, h2, h3⟩
    · exact Or.inl ⟨by omega, h2⟩
    · exact Or.inr ⟨by omega, h2, fun z => h3 ⟨by omega, z.2⟩⟩
theorem dp_s2_gt : ∀ (L : dp_L) (i : Nat) (v : Value) (j : Nat) (w : Value), dp_gt (dp_s2 L i v) j = some w → (j = i ∧ w = v) ∨ (j ≠ i ∧ j ≠ i + 1 ∧ dp_gt L j = some w ∧ ¬ (j + 1 = i ∧ w.category = 2))
  | [], _, _, _, _, h => by cases h
  | a :: t, 0, v, 0, w, h => by cases h; exact Or.inl ⟨rfl, rfl⟩
  | [a], 0, v, j + 1, w, h => by cases h
  | a :: b :: t, 0, v, 1, w, h => by cases h
  | a :: b :: t, 0, v, j + 2, w, h => Or.inr ⟨by omega, by omega, h, by omega⟩
  | a :: t, 1, v, 0, w, h => by
    refine Or.inr ⟨by omega, by omega, ?_, ?_⟩
    · have h : dp_c2 a = some w := h
      unfold dp_c2 at h
      split at h <;> first | (cases h; done) | exact h
    · have h : dp_c2 a = some w := h
      unfold dp_c2 at h
      rintro ⟨-, h2⟩
      split at h
      · cases h
      · cases h
      · rename_i n1 n2
        cases w <;> first | (cases h2; done) | exact n1 _ h | exact n2 _ h
  | a :: t, 1, v, j + 1, w, h => by
    have h : dp_gt (dp_s2 t 0 v) j = some w := h
    rcases dp_s2_gt t 0 v j w h with ⟨h1, h2⟩ | ⟨h1, h1', h2, h3⟩
    · exact Or.inl ⟨by omega, h2⟩
    · exact Or.inr ⟨by omega, by omega, h2, by omega⟩
  | a :: t, i + 2, v, 0, w, h => Or.inr ⟨by omega, by omega, h, by omega⟩
  | a :: t, i + 2, v, j + 1, w, h => by
    have h : dp_gt (dp_s2 t (i + 1) v) j = some w := h
    rcases dp_s2_gt t (i + 1) v j w h with ⟨h1, h2⟩ | ⟨h1, h1', h2, h3⟩
    · exact Or.inl ⟨by omega, h2⟩
    · exact Or.inr ⟨by omega, by omega, h2, fun z => h3 ⟨by omega, z.2⟩⟩
theorem dp_LH.s1 {ls' : Array Slot} {nL : Nat} {ad : Nat → Nat} {L : dp_L} {i : Nat} {v v' : Value} (hv : v' = dp_cv ad v) (h' : lv_has ls' nL ((i, v') :: (dp_as ad 0 L).filter (fun q => !(q.1 == i) && !(q.1 + 1 == i && q.2.category == 2)))) : dp_LH ls' nL ad (dp_s1 L i v) := by
  subst hv
  refine dp_LH.of h' fun j w hw => ?_
  rcases dp_s1_gt L i v j w hw with ⟨rfl, rfl⟩ | ⟨h1, h2, h3⟩
  · exact List.mem_cons_self
  · refine List.mem_cons_of_mem _ (List.mem_filter.mpr ⟨by simpa using dp_as_in ad L 0 j w h2, ?_⟩)
    simp only [dp_cv_cat, Bool.and_eq_true, Bool.not_eq_true', beq_eq_false_iff_ne, Bool.and_eq_false_iff]
    refine ⟨h1, ?_⟩
    by_cases hj : j + 1 = i
    · exact Or.inr (fun z => h3 ⟨hj, z⟩)
    · exact Or.inl hj
theorem dp_LH.s2 {ls' : Array Slot} {nL : Nat} {ad : Nat → Nat} {L : dp_L} {i : Nat} {v v' : Value} (hv : v' = dp_cv ad v) (h' : lv_has ls' nL ((i, v') :: (dp_as ad 0 L).filter (fun q => !(q.1 == i) && (!(q.1 == i + 1) && !(q.1 + 1 == i && q.2.category == 2))))) : dp_LH ls' nL ad (dp_s2 L i v) := by
  subst hv
  refine dp_LH.of h' fun j w hw => ?_
  rcases dp_s2_gt L i v j w hw with ⟨rfl, rfl⟩ | ⟨h1, h1', h2, h3⟩
  · exact List.mem_cons_self
  · refine List.mem_cons_of_mem _ (List.mem_filter.mpr ⟨by simpa using dp_as_in ad L 0 j w h2, ?_⟩)
    simp only [dp_cv_cat, Bool.and_eq_true, Bool.not_eq_true', beq_eq_false_iff_ne, Bool.and_eq_false_iff]
    refine ⟨h1, h1', ?_⟩
    by_cases hj : j + 1 = i
    · exact Or.inr (fun z => h3 ⟨hj, z⟩)
    · exact Or.inl hj
theorem dp_msk_gt : ∀ (b : List Bool) (L : dp_L) (i : Nat) (v : Value), dp_gt (dp_msk b L) i = some v → dp_gt L i = some v
  | [], [], _, _, h => h
  | [], _ :: _, _, _, h => h
  | _ :: _, [], _, _, h => h
  | true :: bs, a :: t, 0, v, h => h
  | false :: bs, a :: t, 0, v, h => by cases h
  | c :: bs, a :: t, i + 1, v, h => dp_msk_gt bs t i v h
theorem dp_none_gt : ∀ (L : dp_L) (i : Nat), dp_gt (L.map fun _ => none) i = none
  | [], _ => rfl
  | _ :: _, 0 => rfl
  | _ :: t, i + 1 => dp_none_gt t i
/-- the tables' row of the arrays of int arrays, by its parts -/
theorem ct_aoas {U : State} (h : va_AOA .int U) :
    ∃ comp c k, U.vm.findClass (FieldType.array .int).toString = some comp ∧ (U.vm.classes.findIdx? fun x => match x.kind with | .array component _ => component == comp | _ => false) = some c ∧ U.vm.classes[c]? = some k ∧ k.kind = .array comp (.array .int) ∧ U.vm.findClass ("[" ++ (FieldType.array .int).toString) = some c := by
  have h : (Cond.arrayOver (.array .int)).before #[] U = true := h
  simp only [Cond.before, Cond.holds, Cond.value, beq_iff_eq] at h
  cases hc : U.vm.findClass (FieldType.array .int).toString with
  | none => simp [hc] at h
  | some comp =>
    simp only [hc, Option.bind_some, Option.bind_eq_some_iff, Option.map_eq_some_iff] at h
    obtain ⟨c, hi, k, hk, hb⟩ := h
    obtain ⟨hlt, hp, -⟩ := Array.findIdx?_eq_some_iff_getElem.mp hi
    have hkk : U.vm.classes[c] = k := (Array.getElem?_eq_some_iff.mp hk).2
    rw [hkk] at hp
    cases hkind : k.kind with
    | array component ty =>
      rw [hkind] at hb hp
      simp at hb hp
      exact ⟨comp, c, k, rfl, hi, hk, by rw [hkind, hp, hb.1], hb.2⟩
    | _ => rw [hkind] at hb; simp at hb
theorem ct_aoa {u U : State} (hal : u.vm.Alike U.vm) (h : va_AOA .int u) : va_AOA .int U := by
  obtain ⟨comp, c, k, hcomp, hidx, hk, hkind, hname⟩ := ct_aoas h
  obtain ⟨k', hk', hek'⟩ := hal.2.2 _ _ hk
  have hkind' : k'.kind = .array comp (.array .int) := by rw [hek']; exact hkind
  have hname' : U.vm.findClass ("[" ++ (FieldType.array .int).toString) = some c := by rw [hal.findClass]; exact hname
  have hcomp' : U.vm.findClass (FieldType.array .int).toString = some comp := by rw [hal.findClass]; exact hcomp
  show (Cond.arrayOver (.array .int)).before #[] U = true
  simp only [Cond.before, Cond.holds, Cond.value, hcomp', Option.bind_some, beq_iff_eq]
  rw [Option.bind_eq_some_iff]
  refine ⟨c, (hal.findIdx?_eqK _ (fun _ => rfl)).trans hidx, ?_⟩
  simp [hk', hkind', hname']
-- what is fixed around the world
def dp_bw : List Cond := [.declares (Bundle.initS "java/lang/RuntimeException"), .declares (Bundle.initS "java/lang/Exception"), .declares (Bundle.initS "java/lang/Throwable"), .castable (dp_exn 0) (dp_exn 0), .castable (dp_exn 1) (dp_exn 1), .castable (dp_exn 2) (dp_exn 2)]
def dp_nest : Cond := .methodLinkNest RL 48 (dp_nm 59) RL
def dp_nc : List (String × String) := []
def dp_GF (g : dp_G) (X : dp_X) (b : Nat) (A : Nat → Prop) (U : State) : Prop :=
  va_K g.1 vwCl (T3 g) U ∧ vx_Zq Bundle.tN "UNASSIGNED_STACK" Bundle.steD A U U.heap ∧ vx_Zq Bundle.tN "SUPPRESSED_SENTINEL" Bundle.listD A U U.heap ∧
  va_X b X.1 X.2 U U.heap ∧ b < U.heap.size ∧ ¬ A b ∧ (∀ w ∈ dp_bw, va_Nw w U) ∧ (∀ e ∈ dp_nc, va_Nc e.1 e.2 U) ∧ (∀ e ∈ dp_st, ∃ a, vk_R (dp_o e.1) e.2.1 e.2.2 a U) ∧ (∀ q, U.heap.size ≤ q → A q) ∧ va_AOA .int U ∧ va_AO RX4 U ∧ va_Nw dp_nest U
theorem dp_bw_warm {s U : State} (hW : s.WarmedH U.vm) (h : ∀ w ∈ dp_bw, va_Nw w s) : ∀ w ∈ dp_bw, va_Nw w U := by
  intro w hw
  have h1 := h w hw
  simp only [dp_bw, List.mem_cons, List.not_mem_nil, or_false] at hw
  rcases hw with rfl | rfl | rfl | rfl | rfl | rfl
  · exact va_Nw.warmD hW h1
  · exact va_Nw.warmD hW h1
  · exact va_Nw.warmD hW h1
  · exact va_Nw.warmC hW h1
  · exact va_Nw.warmC hW h1
  · exact va_Nw.warmC hW h1
theorem dp_GF.go {g : dp_G} {X : dp_X} {b : Nat} {A : Nat → Prop} {s U : State} {H : Heap} {locs : List Loc} (h : dp_GF g X b A s) (hW : s.WarmedH U.vm) (hU : U.heap = H) (hS : va_S A s.heap H locs) : dp_GF g X b A U := by
  obtain ⟨h1, h2, h3, h4, h5, h6, h7, h8, h9, h10, h11, h12, h13⟩ := h
  have hk : ∀ a : Nat, a < s.heap.size → ¬ A a → U.heap[a]? = s.heap[a]? := fun a ha hn => by rw [hU]; exact hS.2.1 a ha hn
  refine ⟨va_K.moved hW.alike h1, (vx_Zq.moved hW.alike h2).kept hk, (vx_Zq.moved hW.alike h3).kept hk, va_X.moved hW.alike (h4.kept (hk b h5 h6)), by rw [hU]; exact Nat.lt_of_lt_of_le h5 hS.1, h6, dp_bw_warm hW h7, fun e he => va_Nc.moved hW.alike (h8 e he), fun e he => ?_, fun q hq => h10 q (Nat.le_trans hS.1 (by rw [← hU]; exact hq)), ct_aoa hW.alike h11, va_AO.moved hW.alike h12, va_Nw.warmM hW h13⟩
  obtain ⟨a, ha⟩ := h9 e he
  exact ⟨a, vk_R.warm hW ha⟩
/-- a call begins -/
theorem dp_GF.call {g : dp_G} {X : dp_X} {b : Nat} {A : Nat → Prop} {U : State} {f : JFrame} {mk : MethodId} {a : Array Value} (h : dp_GF g X b A U) : dp_GF g X b A (U.calling f mk a) := by
  obtain ⟨h1, h2, h3, h4, h5, h6, h7, h8, h9, h10, h11, h12, h13⟩ := h
  refine ⟨va_K.moved (u := U) (U := U.calling f mk a) (Vm.Alike.refl U.vm) h1, vx_Zq.moved (u := U) (U := U.calling f mk a) (Vm.Alike.refl U.vm) h2, vx_Zq.moved (u := U) (U := U.calling f mk a) (Vm.Alike.refl U.vm) h3, va_X.moved (u := U) (U := U.calling f mk a) (Vm.Alike.refl U.vm) h4, h5, h6, fun w hw => va_Nw.same (u := U) (List.all_eq_true.mp (show dp_bw.all Cond.onTables = true by decide +kernel) w hw) rfl (h7 w hw), fun e he => va_Nc.moved (u := U) (U := U.calling f mk a) (Vm.Alike.refl U.vm) (h8 e he), fun e he => ?_, h10, ct_aoa (u := U) (U := U.calling f mk a) (Vm.Alike.refl U.vm) h11, va_AO.moved (u := U) (U := U.calling f mk a) (Vm.Alike.refl U.vm) h12, va_Nw.same (u := U) (U := U.calling f mk a) rfl rfl h13⟩
  obtain ⟨q, hq⟩ := h9 e he
  exact ⟨q, vk_R.same (u := U) rfl hq⟩
