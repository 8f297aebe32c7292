/-! The world: the claim's cells by handles, over the heap; and what is fixed around it. -/
abbrev dp_G : Type := va_G × ClassId × ClassId × ClassId
def dp_cv (ad : Nat → Nat) : Value → Value
  | .ref k => .ref (ad k)
  | v => v
theorem dp_cv_cat (ad : Nat → Nat) (v : Value) : (dp_cv ad v).category = v.category := by cases v <;> rfl
def dp_out (ad : Nat → Nat) (k N : Nat) : Nat → Option Nat := fun j => if j < N then some (ad (k + j)) else none
def dp_cel (g : dp_G) (ad : Nat → Nat) (M : dp_M) (o : Int64) (h : Nat) : va_E := match dp_obj M h with
  | some q => .inr (q.1, q.2.map (dp_cv ad))
  | none => if h = 7 then .inl (g.2.2.2, 16, .inr (.inr (.inr (.inr (dp_out ad 27 16))))) else if h = 9 then .inl (g.2.2.2, 16, .inr (.inr (.inr (.inr (dp_out ad 43 16)))))
    else if h = 11 then .inl (g.2.2.2, 6, .inr (.inr (.inr (.inr (dp_out ad 59 6))))) else if h = 26 then .inl (g.2.2.1, 1, .inr (.inl fun j => if j = 0 then o else 0)) else .inl (g.2.1, dp_len h, .inl (M h))
def dp_wl (g : dp_G) (ad : Nat → Nat) (n : Nat) (M : dp_M) (o : Int64) : va_W := (List.range n).map fun h => (ad h, dp_cel g ad M o h)
theorem dp_isA_or (h : Nat) : dp_isA h = true ∨ h = 0 ∨ h = 1 ∨ h = 2 ∨ h = 3 ∨ h = 4 ∨ h = 22 ∨ h = 7 ∨ h = 9 ∨ h = 11 ∨ h = 26 := by
  simp only [dp_isA, Bool.not_eq_true', Bool.or_eq_false_iff, beq_eq_false_iff_ne]
  omega
theorem dp_obj_A {M : dp_M} {h : Nat} (hA : dp_isA h = true) : dp_obj M h = none := by
  unfold dp_obj
  split <;> first | rfl | (exfalso; revert hA; decide)
theorem dp_cel_A {g : dp_G} {ad : Nat → Nat} {M : dp_M} {o : Int64} {h : Nat} (hA : dp_isA h = true) : dp_cel g ad M o h = .inl (g.2.1, dp_len h, .inl (M h)) := by
  have hn : h ≠ 7 ∧ h ≠ 9 ∧ h ≠ 11 ∧ h ≠ 26 := by
    refine ⟨?_, ?_, ?_, ?_⟩ <;> (intro e; subst e; revert hA; decide)
  unfold dp_cel
  rw [dp_obj_A hA]
  simp only [hn.1, hn.2.1, hn.2.2.1, hn.2.2.2, if_false]
theorem dp_cel_ext {g : dp_G} {ad : Nat → Nat} {M M' : dp_M} {o o' : Int64} {h : Nat} (e : ∀ j, M h j = M' h j) (eo : h = 26 → o = o') : dp_cel g ad M o h = dp_cel g ad M' o' h := by
  rcases dp_isA_or h with hA | rfl | rfl | rfl | rfl | rfl | rfl | rfl | rfl | rfl | rfl
  · rw [dp_cel_A hA, dp_cel_A hA, show M h = M' h from funext e]
  · rfl
  · simp only [dp_cel, dp_obj, e 5]
  · simp only [dp_cel, dp_obj, e 3]
  · simp only [dp_cel, dp_obj, e 4]
  · simp only [dp_cel, dp_obj, e 4]
  · simp only [dp_cel, dp_obj, e 0, e 1, e 2, e 3]
  · rfl
  · rfl
  · rfl
  · obtain rfl := eo rfl
    rfl
/-- other addresses, the same at all handles below 65 and at h -/
theorem dp_cel_ad {g : dp_G} {ad ad' : Nat → Nat} {M : dp_M} {o : Int64} {h : Nat} (e : ∀ k, k < 65 → ad' k = ad k) : dp_cel g ad' M o h = dp_cel g ad M o h := by
  have eo : ∀ k N : Nat, k + N ≤ 65 → dp_out ad' k N = dp_out ad k N := fun k N hk => by
    funext j
    unfold dp_out
    by_cases hj : j < N
    · rw [if_pos hj, if_pos hj, e (k + j) (by omega)]
    · rw [if_neg hj, if_neg hj]
  rcases dp_isA_or h with hA | rfl | rfl | rfl | rfl | rfl | rfl | rfl | rfl | rfl | rfl
  · rw [dp_cel_A hA, dp_cel_A hA]
  all_goals first
    | (simp only [dp_cel, dp_obj, List.map, dp_cv, e 1 (by omega), e 2 (by omega), e 3 (by omega), e 4 (by omega), e 5 (by omega), e 6 (by omega), e 7 (by omega), e 8 (by omega), e 9 (by omega), e 10 (by omega), e 11 (by omega), e 12 (by omega), e 13 (by omega), e 14 (by omega), e 15 (by omega), e 16 (by omega), e 17 (by omega), e 18 (by omega), e 19 (by omega), e 20 (by omega), e 21 (by omega), e 23 (by omega), e 24 (by omega), e 25 (by omega)]; done)
    | (simp only [dp_cel, dp_obj, eo 27 16 (by omega), eo 43 16 (by omega), eo 59 6 (by omega)]; done)
    | rfl
theorem dp_wl_at {g : dp_G} {ad : Nat → Nat} {n : Nat} {M : dp_M} {o : Int64} {h : Nat} (hh : h < n) : (dp_wl g ad n M o)[h]? = some (ad h, dp_cel g ad M o h) := by
  unfold dp_wl
  rw [List.getElem?_map, List.getElem?_range hh]
  rfl
theorem dp_wl_A {g : dp_G} {ad : Nat → Nat} {n : Nat} {M : dp_M} {o : Int64} {h : Nat} (hh : h < n) (hA : dp_isA h = true) : (dp_wl g ad n M o)[h]? = some (ad h, .inl (g.2.1, dp_len h, .inl (M h))) := by
  rw [dp_wl_at hh, dp_cel_A hA]
theorem dp_wl_len {g : dp_G} {ad : Nat → Nat} {n : Nat} {M : dp_M} {o : Int64} : (dp_wl g ad n M o).length = n := by simp [dp_wl]
theorem dp_wl_get {g : dp_G} {ad : Nat → Nat} {n : Nat} {M : dp_M} {o : Int64} {k : Nat} {q : Nat × va_E} (hk : (dp_wl g ad n M o)[k]? = some q) : k < n ∧ q = (ad k, dp_cel g ad M o k) := by
  have hl := (List.getElem?_eq_some_iff.mp hk).1
  rw [dp_wl_len] at hl
  rw [dp_wl_at hl] at hk
  exact ⟨hl, (Option.some.inj hk).symm⟩
theorem dp_set {g : dp_G} {ad : Nat → Nat} {n : Nat} {M M' : dp_M} {o o' : Int64} {h : Nat} {e : va_E} (he : e = dp_cel g ad M' o' h) (hk : ∀ j, j ≠ h → dp_cel g ad M o j = dp_cel g ad M' o' j) : (dp_wl g ad n M o).set h (ad h, e) = dp_wl g ad n M' o' := by
  apply List.ext_getElem?
  intro j
  by_cases hj : j < n
  · rw [dp_wl_at hj]
    by_cases hjh : j = h
    · subst hjh
      rw [List.getElem?_set_self (by rw [dp_wl_len]; exact hj), he]
    · rw [List.getElem?_set_ne (Ne.symm hjh), dp_wl_at hj, hk j hjh]
  · rw [List.getElem?_eq_none (by rw [List.length_set, dp_wl_len]; omega), List.getElem?_eq_none (by rw [dp_wl_len]; omega)]
theorem dp_row_s (M : dp_M) (h : Nat) (f : Nat → Int32) : dp_row M h f h = f := by funext j; simp [dp_row]
theorem dp_row_n (M : dp_M) {h a : Nat} (f : Nat → Int32) (ha : a ≠ h) : dp_row M h f a = M a := by funext j; simp [dp_row, ha]
theorem dp_set_A {g : dp_G} {ad : Nat → Nat} {n : Nat} {M : dp_M} {o : Int64} {h : Nat} {f : Nat → Int32} (hA : dp_isA h = true) : (dp_wl g ad n M o).set h (ad h, .inl (g.2.1, dp_len h, .inl f)) = dp_wl g ad n (dp_row M h f) o :=
  dp_set (by rw [dp_cel_A hA, dp_row_s]) (fun j hj => dp_cel_ext (fun i => by rw [dp_row_n M f hj]) (fun _ => rfl))
theorem dp_up_row (M : dp_M) (h k : Nat) (x : Int32) : dp_row M h (upd (M h) k x) = dp_up M h k x := by
  funext a j
  unfold dp_row dp_up upd
  by_cases ha : a = h
  · subst ha
    by_cases hj : j = k <;> simp [hj]
  · simp [ha]
theorem dp_gtv_get : ∀ (l : List Value) (k : Nat) (v : Value), dp_gtv l k = some v → l[k]? = some v
  | [], _, _, h => by cases h
  | a :: t, 0, v, h => by simpa [dp_gtv] using h
  | a :: t, k + 1, v, h => by
    rw [List.getElem?_cons_succ]
    exact dp_gtv_get t k v h
/-- a field of an object is set -/
theorem dp_set_F {g : dp_G} {ad : Nat → Nat} {n : Nat} {M : dp_M} {o : Int64} {h k : Nat} {q : Nat × List Value} {x w : Int32} (hq : dp_obj M h = some q) (hk : dp_gtv q.2 k = some (.int w)) : (dp_wl g ad n M o).set h (ad h, .inr (q.1, (q.2.map (dp_cv ad)).set k (.int x))) = dp_wl g ad n (dp_up M h k x) o := by
  refine dp_set ?_ (fun j hj => dp_cel_ext (fun i => by unfold dp_up; rw [if_neg (fun z => hj z.1)]) (fun _ => rfl))
  rcases dp_isA_or h with hA | rfl | rfl | rfl | rfl | rfl | rfl | rfl | rfl | rfl | rfl
  · rw [dp_obj_A hA] at hq; cases hq
  · cases hq
    match k, hk with
    | 0, hk => cases hk
    | 1, hk => cases hk
    | 2, hk => cases hk
    | 3, hk => cases hk
    | 4, hk => cases hk
    | k + 5, hk => cases hk
  · cases hq
    match k, hk with
    | 0, hk => cases hk
    | 1, hk => cases hk
    | 2, hk => cases hk
    | 3, hk => cases hk
    | 4, hk => cases hk
    | 5, hk => rfl
    | k + 6, hk => cases hk
  · cases hq
    match k, hk with
    | 0, hk => cases hk
    | 1, hk => cases hk
    | 2, hk => cases hk
    | 3, hk => rfl
    | k + 4, hk => cases hk
  · cases hq
    match k, hk with
    | 0, hk => cases hk
    | 1, hk => cases hk
    | 2, hk => cases hk
    | 3, hk => cases hk
    | 4, hk => rfl
    | k + 5, hk => cases hk
  · cases hq
    match k, hk with
    | 0, hk => cases hk
    | 1, hk => cases hk
    | 2, hk => cases hk
    | 3, hk => cases hk
    | 4, hk => rfl
    | k + 5, hk => cases hk
  · cases hq
    match k, hk with
    | 0, hk => rfl
    | 1, hk => rfl
    | 2, hk => rfl
    | 3, hk => rfl
    | 4, hk => cases hk
    | 5, hk => cases hk
    | 6, hk => cases hk
    | k + 7, hk => cases hk
  all_goals cases hq
theorem dp_set_O {g : dp_G} {ad : Nat → Nat} {n : Nat} {M : dp_M} {o x : Int64} {f : Nat → Int64} (hf : f = fun j => if j = 0 then x else 0) : (dp_wl g ad n M o).set 26 (ad 26, .inl (g.2.2.1, 1, .inr (.inl f))) = dp_wl g ad n M x :=
  dp_set (by rw [hf]; rfl) (fun j hj => dp_cel_ext (fun i => rfl) (fun h => absurd h hj))
-- locals
def dp_LH (ls : Array Slot) (nL : Nat) (ad : Nat → Nat) (L : dp_L) : Prop := ls.size = nL ∧ lv_wf ls ∧ ∀ (i : Nat) (v : Value), dp_gt L i = some v → ls[i]? = some (.val (dp_cv ad v))
def dp_as (ad : Nat → Nat) : Nat → dp_L → List (Nat × Value)
  | _, [] => []
  | i, some v :: t => (i, dp_cv ad v) :: dp_as ad (i + 1) t
  | i, none :: t => dp_as ad (i + 1) t
theorem dp_as_in (ad : Nat → Nat) : ∀ (L : dp_L) (i j : Nat) (v : Value), dp_gt L j = some v → (i + j, dp_cv ad v) ∈ dp_as ad i L
  | [], _, _, _, h => by cases h
  | some w :: t, i, 0, v, h => by
    cases h
    exact List.mem_cons_self
  | none :: t, i, 0, v, h => by cases h
  | some w :: t, i, j + 1, v, h => by
    have := dp_as_in ad t (i + 1) j v h
    rw [show i + (j + 1) = i + 1 + j by omega]
    exact List.mem_cons_of_mem _ this
  | none :: t, i, j + 1, v, h => by
    have := dp_as_in ad t (i + 1) j v h
    rw [show i + (j + 1) = i + 1 + j by omega]
    exact this
theorem dp_as_out (ad : Nat → Nat) : ∀ (L : dp_L) (i : Nat) (p : Nat × Value), p ∈ dp_as ad i L → ∃ j v, dp_gt L j = some v ∧ p = (i + j, dp_cv ad v)
  | [], _, _, h => by cases h
  | some w :: t, i, p, h => by
    rcases List.mem_cons.mp h with rfl | h
    · exact ⟨0, w, rfl, rfl⟩
    · obtain ⟨j, v, h1, h2⟩ := dp_as_out ad t (i + 1) p h
      exact ⟨j + 1, v, h1, by rw [h2, show i + 1 + j = i + (j + 1) by omega]⟩
  | none :: t, i, p, h => by
    obtain ⟨j, v, h1, h2⟩ := dp_as_out ad t (i + 1) p h
    exact ⟨j + 1, v, h1, by rw [h2, show i + 1 + j = i + (j + 1) by omega]⟩
theorem dp_LH.has {ls : Array Slot} {nL : Nat} {ad : Nat → Nat} {L : dp_L} (h : dp_LH ls nL ad L) : lv_has ls nL (dp_as ad 0 L) := by
  refine ⟨h.1, h.2.1, fun p hp => ?_⟩
  obtain ⟨j, v, h1, rfl⟩ := dp_as_out ad L 0 p hp
  have := h.2.2 j v h1
  simpa using this
theorem dp_LH.of {ls : Array Slot} {nL : Nat} {ad : Nat → Nat} {L : dp_L} {l : List (Nat × Value)} (h : lv_has ls nL l) (hl : ∀ j v, dp_gt L j = some v → (j, dp_cv ad v) ∈ l) : dp_LH ls nL ad L :=
  ⟨h.1, h.2.1, fun i v hi => h.2.2 _ (hl i v hi)⟩
theorem dp_s1_gt : ∀ (L : dp_L) (i : Nat) (v : Value) (j : Nat) (w : Value), dp_gt (dp_s1 L i v) j = some w → (j = i ∧ w = v) ∨ (j ≠ i ∧ dp_gt L j = some w ∧ ¬ (j + 1 = i ∧ w.category = 2))
  | [], _, _, _, _, h => by cases h
  | a :: t, 0, v, 0, w, h => by cases h; exact Or.inl ⟨rfl, rfl⟩
  | a :: t, 0, v, j + 1, w, h => Or.inr ⟨by omega, h, by omega⟩
  | a :: t, 1, v, 0, w, h => by
    refine Or.inr ⟨by omega, ?_, ?_⟩
    · have h : dp_c2 a = some w := h
      unfold dp_c2 at h
      split at h <;> first | (cases h; done) | exact h
    · have h : dp_c2 a = some w := h
      unfold dp_c2 at h
      rintro ⟨-, h2⟩
      split at h
      · cases h
      · cases h
      · rename_i n1 n2
        cases w <;> first | (cases h2; done) | exact n1 _ h | exact n2 _ h
  | a :: t, 1, v, j + 1, w, h => by
    have h : dp_gt (dp_s1 t 0 v) j = some w := h
    rcases dp_s1_gt t 0 v j w h with ⟨h1, h2⟩ | ⟨h1, h2, h3⟩
    · exact Or.inl ⟨by omega, h2⟩
    · exact Or.inr ⟨by omega, h2, by omega⟩
  | a :: t, i + 2, v, 0, w, h => Or.inr ⟨by omega, h, by omega⟩
  | a :: t, i + 2, v, j + 1, w, h => by
    have h : dp_gt (dp_s1 t (i + 1) v) j = some w := h
    rcases dp_s1_gt t (i + 1) v j w h with ⟨h1, h2⟩ | ⟨h1, h2, h3⟩
    · exact Or.inl ⟨by omega, h2⟩
    · exact Or.inr ⟨by omega, h2, fun z => h3 ⟨by omega, z.2⟩⟩
theorem dp_s2_gt : ∀ (L : dp_L) (i : Nat) (v : Value) (j : Nat) (w : Value), dp_gt (dp_s2 L i v) j = some w → (j = i ∧ w = v) ∨ (j ≠ i ∧ j ≠ i + 1 ∧ dp_gt L j = some w ∧ ¬ (j + 1 = i ∧ w.category = 2))
  | [], _, _, _, _, h => by cases h
  | a :: t, 0, v, 0, w, h => by cases h; exact Or.inl ⟨rfl, rfl⟩
  | [a], 0, v, j + 1, w, h => by cases h
  | a :: b :: t, 0, v, 1, w, h => by cases h
  | a :: b :: t, 0, v, j + 2, w, h => Or.inr ⟨by omega, by omega, h, by omega⟩
  | a :: t, 1, v, 0, w, h => by
    refine Or.inr ⟨by omega, by omega, ?_, ?_⟩
    · have h : dp_c2 a = some w := h
      unfold dp_c2 at h
      split at h <;> first | (cases h; done) | exact h
    · have h : dp_c2 a = some w := h
      unfold dp_c2 at h
      rintro ⟨-, h2⟩
      split at h
      · cases h
      · cases h
      · rename_i n1 n2
        cases w <;> first | (cases h2; done) | exact n1 _ h | exact n2 _ h
  | a :: t, 1, v, j + 1, w, h => by
    have h : dp_gt (dp_s2 t 0 v) j = some w := h
    rcases dp_s2_gt t 0 v j w h with ⟨h1, h2⟩ | ⟨h1, h1', h2, h3⟩
    · exact Or.inl ⟨by omega, h2⟩
    · exact Or.inr ⟨by omega, by omega, h2, by omega⟩
  | a :: t, i + 2, v, 0, w, h => Or.inr ⟨by omega, by omega, h, by omega⟩
  | a :: t, i + 2, v, j + 1, w, h => by
    have h : dp_gt (dp_s2 t (i + 1) v) j = some w := h
    rcases dp_s2_gt t (i + 1) v j w h with ⟨h1, h2⟩ | ⟨h1, h1', h2, h3⟩
    · exact Or.inl ⟨by omega, h2⟩
    · exact Or.inr ⟨by omega, by omega, h2, fun z => h3 ⟨by omega, z.2⟩⟩
theorem dp_LH.s1 {ls' : Array Slot} {nL : Nat} {ad : Nat → Nat} {L : dp_L} {i : Nat} {v v' : Value} (hv : v' = dp_cv ad v) (h' : lv_has ls' nL ((i, v') :: (dp_as ad 0 L).filter (fun q => !(q.1 == i) && !(q.1 + 1 == i && q.2.category == 2)))) : dp_LH ls' nL ad (dp_s1 L i v) := by
  subst hv
  refine dp_LH.of h' fun j w hw => ?_
  rcases dp_s1_gt L i v j w hw with ⟨rfl, rfl⟩ | ⟨h1, h2, h3⟩
  · exact List.mem_cons_self
  · refine List.mem_cons_of_mem _ (List.mem_filter.mpr ⟨by simpa using dp_as_in ad L 0 j w h2, ?_⟩)
    simp only [dp_cv_cat, Bool.and_eq_true, Bool.not_eq_true', beq_eq_false_iff_ne, Bool.and_eq_false_iff]
    refine ⟨h1, ?_⟩
    by_cases hj : j + 1 = i
    · exact Or.inr (fun z => h3 ⟨hj, z⟩)
    · exact Or.inl hj
theorem dp_LH.s2 {ls' : Array Slot} {nL : Nat} {ad : Nat → Nat} {L : dp_L} {i : Nat} {v v' : Value} (hv : v' = dp_cv ad v) (h' : lv_has ls' nL ((i, v') :: (dp_as ad 0 L).filter (fun q => !(q.1 == i) && (!(q.1 == i + 1) && !(q.1 + 1 == i && q.2.category == 2))))) : dp_LH ls' nL ad (dp_s2 L i v) := by
  subst hv
  refine dp_LH.of h' fun j w hw => ?_
  rcases dp_s2_gt L i v j w hw with ⟨rfl, rfl⟩ | ⟨h1, h1', h2, h3⟩
  · exact List.mem_cons_self
  · refine List.mem_cons_of_mem _ (List.mem_filter.mpr ⟨by simpa using dp_as_in ad L 0 j w h2, ?_⟩)
    simp only [dp_cv_cat, Bool.and_eq_true, Bool.not_eq_true', beq_eq_false_iff_ne, Bool.and_eq_false_iff]
    refine ⟨h1, h1', ?_⟩
    by_cases hj : j + 1 = i
    · exact Or.inr (fun z => h3 ⟨hj, z⟩)
    · exact Or.inl hj
theorem dp_msk_gt : ∀ (b : List Bool) (L : dp_L) (i : Nat) (v : Value), dp_gt (dp_msk b L) i = some v → dp_gt L i = some v
  | [], [], _, _, h => h
  | [], _ :: _, _, _, h => h
  | _ :: _, [], _, _, h => h
  | true :: bs, a :: t, 0, v, h => h
  | false :: bs, a :: t, 0, v, h => by cases h
  | c :: bs, a :: t, i + 1, v, h => dp_msk_gt bs t i v h
theorem dp_none_gt : ∀ (L : dp_L) (i : Nat), dp_gt (L.map fun _ => none) i = none
  | [], _ => rfl
  | _ :: _, 0 => rfl
  | _ :: t, i + 1 => dp_none_gt t i
-- what is fixed around the world
def dp_bw : List Cond := [.declares (Bundle.initS "java/lang/RuntimeException"), .declares (Bundle.initS "java/lang/Exception"), .declares (Bundle.initS "java/lang/Throwable"), .castable (dp_exn 0) (dp_exn 0), .castable (dp_exn 1) (dp_exn 1), .castable (dp_exn 2) (dp_exn 2), .castable "[I" "java/lang/Cloneable"]
def dp_nc : List (String × String) := [(dp_exn 0, dp_exn 1), (dp_exn 0, dp_exn 2), (dp_exn 1, dp_exn 0), (dp_exn 1, dp_exn 2), (dp_exn 2, dp_exn 0), (dp_exn 2, dp_exn 1)]
def dp_GF (g : dp_G) (X : dp_X) (b : Nat) (A : Nat → Prop) (U : State) : Prop :=
  va_K g.1 vwCl [(g.2.1, .int), (g.2.2.1, .long), (g.2.2.2, .array .int)] U ∧ vx_Zq Bundle.tN "UNASSIGNED_STACK" Bundle.steD A U U.heap ∧ vx_Zq Bundle.tN "SUPPRESSED_SENTINEL" Bundle.listD A U U.heap ∧
  va_X b X.1 X.2 U U.heap ∧ b < U.heap.size ∧ ¬ A b ∧ (∀ w ∈ dp_bw, va_Nw w U) ∧ (∀ e ∈ dp_nc, va_Nc e.1 e.2 U) ∧ (∀ e ∈ dp_st, ∃ a, vk_R (dp_o e.1) e.2.1 e.2.2 a U) ∧ ∀ q, U.heap.size ≤ q → A q
theorem dp_bw_warm {s U : State} (hW : s.WarmedH U.vm) (h : ∀ w ∈ dp_bw, va_Nw w s) : ∀ w ∈ dp_bw, va_Nw w U := by
  intro w hw
  have h1 := h w hw
  simp only [dp_bw, List.mem_cons, List.not_mem_nil, or_false] at hw
  rcases hw with rfl | rfl | rfl | rfl | rfl | rfl | rfl
  · exact va_Nw.warmD hW h1
  · exact va_Nw.warmD hW h1
  · exact va_Nw.warmD hW h1
  · exact va_Nw.warmC hW h1
  · exact va_Nw.warmC hW h1
  · exact va_Nw.warmC hW h1
  · exact va_Nw.warmC hW h1
theorem dp_GF.go {g : dp_G} {X : dp_X} {b : Nat} {A : Nat → Prop} {s U : State} {H : Heap} {locs : List Loc} (h : dp_GF g X b A s) (hW : s.WarmedH U.vm) (hU : U.heap = H) (hS : va_S A s.heap H locs) : dp_GF g X b A U := by
  obtain ⟨h1, h2, h3, h4, h5, h6, h7, h8, h9, h10⟩ := h
  have hk : ∀ a : Nat, a < s.heap.size → ¬ A a → U.heap[a]? = s.heap[a]? := fun a ha hn => by rw [hU]; exact hS.2.1 a ha hn
  refine ⟨va_K.moved hW.alike h1, (vx_Zq.moved hW.alike h2).kept hk, (vx_Zq.moved hW.alike h3).kept hk, va_X.moved hW.alike (h4.kept (hk b h5 h6)), by rw [hU]; exact Nat.lt_of_lt_of_le h5 hS.1, h6, dp_bw_warm hW h7, fun e he => va_Nc.moved hW.alike (h8 e he), fun e he => ?_, fun q hq => h10 q (Nat.le_trans hS.1 (by rw [← hU]; exact hq))⟩
  obtain ⟨a, ha⟩ := h9 e he
  exact ⟨a, vk_R.warm hW ha⟩
/-- a call begins -/
theorem dp_GF.call {g : dp_G} {X : dp_X} {b : Nat} {A : Nat → Prop} {U : State} {f : JFrame} {mk : MethodId} {a : Array Value} (h : dp_GF g X b A U) : dp_GF g X b A (U.calling f mk a) := by
  obtain ⟨h1, h2, h3, h4, h5, h6, h7, h8, h9, h10⟩ := h
  refine ⟨va_K.moved (u := U) (U := U.calling f mk a) (Vm.Alike.refl U.vm) h1, vx_Zq.moved (u := U) (U := U.calling f mk a) (Vm.Alike.refl U.vm) h2, vx_Zq.moved (u := U) (U := U.calling f mk a) (Vm.Alike.refl U.vm) h3, va_X.moved (u := U) (U := U.calling f mk a) (Vm.Alike.refl U.vm) h4, h5, h6, fun w hw => va_Nw.same (u := U) (List.all_eq_true.mp (show dp_bw.all Cond.onTables = true by decide +kernel) w hw) rfl (h7 w hw), fun e he => va_Nc.moved (u := U) (U := U.calling f mk a) (Vm.Alike.refl U.vm) (h8 e he), fun e he => ?_, h10⟩
  obtain ⟨q, hq⟩ := h9 e he
  exact ⟨q, vk_R.same (u := U) rfl hq⟩
