/-! the words that the methods need, and their facts -/
-- words
def dp_wc : List Cond := dp_cw0 ++ (dp_cw1 ++ (dp_cw2 ++ dp_cw3))
def dp_wd : List Cond := dp_wc ++ (dp_n1 ++ (dp_n2 ++ (dp_n3 ++ dp_x2)))
def dp_gw (w : Cond) : Prop := w ∈ lw_tbl ∧ ((w.onTables && w.keeps) = true ∨ ∃ ty, w = .arrayClass ty)
theorem dp_gw_of {l : List Cond} {ix : List Nat} (h1 : l = ix.filterMap (fun i => lw_tbl[i]?)) (h2 : l.all goodWord = true) : ∀ w ∈ l, dp_gw w := by
  intro w hw
  refine ⟨?_, good_of_word (List.all_eq_true.mp h2 w hw)⟩
  rw [h1] at hw
  obtain ⟨i, -, hi⟩ := List.mem_filterMap.mp hw
  exact List.mem_of_getElem? hi
theorem dp_wd_good : ∀ w ∈ dp_wd, dp_gw w := by
  intro w hw
  simp only [dp_wd, dp_wc, List.mem_append] at hw
  rcases hw with (h | h | h | h) | h | h | h | h
  · exact dp_gw_of dp_cw0_in dp_cw0_good w h
  · exact dp_gw_of dp_cw1_in dp_cw1_good w h
  · exact dp_gw_of dp_cw2_in dp_cw2_good w h
  · exact dp_gw_of dp_cw3_in dp_cw3_good w h
  · exact dp_gw_of dp_n1_in dp_n1_good w h
  · exact dp_gw_of dp_n2_in dp_n2_good w h
  · exact dp_gw_of dp_n3_in dp_n3_good w h
  · exact dp_gw_of dp_x2_in dp_x2_good w h
theorem dp_wd_code {z : Nat} (hz : z < 77) : dp_codeW z ∈ dp_wd := by
  have key : ∀ {a k : Nat} {l : List Cond}, (List.range' a k).map dp_codeW = l → a ≤ z → z < a + k → dp_codeW z ∈ l := fun e h1 h2 => by
    rw [← e]; exact List.mem_map.mpr ⟨z, List.mem_range'_1.mpr ⟨h1, h2⟩, rfl⟩
  simp only [dp_wd, dp_wc, List.mem_append]
  rcases Nat.lt_or_ge z 25 with h | h
  · exact Or.inl (Or.inl (key dp_cw0_is (by omega) (by omega)))
  rcases Nat.lt_or_ge z 50 with h | h
  · exact Or.inl (Or.inr (Or.inl (key dp_cw1_is (by omega) (by omega))))
  rcases Nat.lt_or_ge z 75 with h | h
  · exact Or.inl (Or.inr (Or.inr (Or.inl (key dp_cw2_is (by omega) (by omega)))))
  · exact Or.inl (Or.inr (Or.inr (Or.inr (key dp_cw3_is (by omega) (by omega)))))
theorem dp_wd_kind {z : Nat} (hz : z < 77) : dp_kindW z ∈ dp_wd := by
  simp only [dp_wd, dp_n1, List.mem_append]
  exact Or.inr (Or.inl (Or.inl (List.mem_map.mpr ⟨z, List.mem_range.mpr hz, rfl⟩)))
theorem dp_wd_link {e : Nat × Nat × Nat} (he : e ∈ dp_ml) : dp_linkW e ∈ dp_wd := by
  simp only [dp_wd, dp_n1, List.mem_append]
  exact Or.inr (Or.inl (Or.inr (Or.inl (List.mem_map.mpr ⟨e, he, rfl⟩))))
theorem dp_wd_nat {e : Nat × Nat × Nat} (he : e ∈ dp_nl) : dp_linkN e ∈ dp_wd := by
  simp only [dp_wd, dp_n1, List.mem_append]
  exact Or.inr (Or.inl (Or.inr (Or.inr (List.mem_map.mpr ⟨e, he, rfl⟩))))
theorem dp_wd_field {e : Nat × Nat × Nat × Nat} (he : e ∈ dp_fl) : dp_fieldW e ∈ dp_wd := by
  simp only [dp_wd, dp_n2, List.mem_append]
  exact Or.inr (Or.inr (Or.inl (Or.inl (List.mem_map.mpr ⟨e, he, rfl⟩))))
theorem dp_wd_sel {z : Nat} (he : z ∈ dp_vids) : dp_selW z ∈ dp_wd := by
  simp only [dp_wd, dp_n2, List.mem_append]
  exact Or.inr (Or.inr (Or.inl (Or.inr (Or.inl (List.mem_map.mpr ⟨z, he, rfl⟩)))))
theorem dp_wd_init {k : Nat} (hk : k < 9) : Cond.initialized (dp_o k) ∈ dp_wd := by
  simp only [dp_wd, dp_n2, List.mem_append]
  refine Or.inr (Or.inr (Or.inl (Or.inr (Or.inr (Or.inl (List.mem_map.mpr ⟨dp_o k, ?_, rfl⟩))))))
  unfold dp_o
  rw [List.getD_eq_getElem?_getD, List.getElem?_eq_getElem (show k < dp_owns.length from hk)]
  exact List.getElem_mem _
theorem dp_wd_lays {c : Nat} {q : vw_C} (hc : vwCl[c]? = some q) : ∀ w ∈ u_ws q.1 q.2.1 q.2.2, w ∈ dp_wd := by
  intro w hw
  simp only [dp_wd, dp_n2, List.mem_append]
  refine Or.inr (Or.inr (Or.inl (Or.inr (Or.inr (Or.inr ?_)))))
  match c, hc with
  | 0, hc => cases hc; exact Or.inl hw
  | 1, hc => cases hc; exact Or.inr (Or.inl hw)
  | 2, hc => cases hc; exact Or.inr (Or.inr (Or.inl hw))
  | 3, hc => cases hc; exact Or.inr (Or.inr (Or.inr (Or.inl hw)))
  | 4, hc => cases hc; exact Or.inr (Or.inr (Or.inr (Or.inr (Or.inl hw))))
  | 5, hc => cases hc; exact Or.inr (Or.inr (Or.inr (Or.inr (Or.inr hw))))
  | c + 6, hc => simp [vwCl] at hc
theorem dp_wd_cl {e : Nat × Nat × Int64} (he : e ∈ dp_cl) : Cond.constantLong (dp_o e.1) e.2.1 e.2.2 ∈ dp_wd := by
  simp only [dp_wd, dp_n3, List.mem_append]
  exact Or.inr (Or.inr (Or.inr (Or.inl (Or.inl (List.mem_map.mpr ⟨e, he, rfl⟩)))))
theorem dp_wd_ci {e : Nat × Nat × Int32} (he : e ∈ dp_ci) : Cond.constant (dp_o e.1) e.2.1 e.2.2 ∈ dp_wd := by
  simp only [dp_wd, dp_n3, List.mem_append]
  exact Or.inr (Or.inr (Or.inr (Or.inl (Or.inr (Or.inl (List.mem_map.mpr ⟨e, he, rfl⟩))))))
theorem dp_wd_x0 {w : Cond} (k : Nat) (h : dp_x0[k]? = some w) : w ∈ dp_wd := by
  simp only [dp_wd, dp_n3, List.mem_append]
  exact Or.inr (Or.inr (Or.inr (Or.inl (Or.inr (Or.inr (Or.inl (List.mem_of_getElem? h)))))))
theorem dp_wd_x1 {w : Cond} (k : Nat) (h : dp_x1[k]? = some w) : w ∈ dp_wd := by
  simp only [dp_wd, dp_n3, List.mem_append]
  exact Or.inr (Or.inr (Or.inr (Or.inl (Or.inr (Or.inr (Or.inr (List.mem_of_getElem? h)))))))
theorem dp_wd_x2 {w : Cond} (h : w ∈ dp_x2) : w ∈ dp_wd := by
  simp only [dp_wd, List.mem_append]
  exact Or.inr (Or.inr (Or.inr (Or.inr h)))
theorem dp_lo_in {α : Type} : ∀ (l : List (Nat × Nat × α)) (o i : Nat) (x : α), dp_lo l o i = some x → (o, i, x) ∈ l
  | [], _, _, _, h => by cases h
  | (a, b, y) :: t, o, i, x, h => by
    unfold dp_lo at h
    by_cases hc : a = o ∧ b = i
    · rw [if_pos hc] at h
      cases h
      rw [hc.1, hc.2]
      exact List.mem_cons_self
    · rw [if_neg hc] at h
      exact List.mem_cons_of_mem _ (dp_lo_in t o i x h)
theorem dp_fld_in {o i ci k : Nat} (h : dp_fld o i = some (ci, k)) : (o, i, ci, k) ∈ dp_fl := by
  have h1 := dp_lo_in _ o i _ h
  obtain ⟨⟨a, b, c, d⟩, he, h2⟩ := List.mem_map.mp h1
  cases h2
  exact he
-- methods
def dp_zok (z : Nat) : Bool := decide ((dp_nm z).cls ≠ "java/lang/invoke/MethodHandle") && decide ((dp_nm z).cls ≠ "java/lang/invoke/VarHandle") && plainName (dp_nm z).cls && decide ((dp_nm z).cls = dp_o (dp_ow z)) &&
  decide ((parseMethodDescriptor (dp_nm z).desc).map (fun d => d.parameters.length) = some (dp_na z - (if dp_sta z then 0 else 1))) && (dp_hh z).isEmpty && decide (dp_ow z < 9) && (dp_sta z || (decide (z ∈ dp_vids ∨ z = 59 ∨ z = 60) && decide (1 ≤ dp_na z)))
set_option maxRecDepth 100000 in
set_option maxHeartbeats 4000000 in
theorem dp_zok_all : (List.range 78).all dp_zok = true := by decide +kernel
theorem dp_zok_spec {z : Nat} (hz : z < 78) : (dp_nm z).cls ≠ "java/lang/invoke/MethodHandle" ∧ (dp_nm z).cls ≠ "java/lang/invoke/VarHandle" ∧ plainName (dp_nm z).cls = true ∧ (dp_nm z).cls = dp_o (dp_ow z) ∧
    (parseMethodDescriptor (dp_nm z).desc).map (fun d => d.parameters.length) = some (dp_na z - (if dp_sta z then 0 else 1)) ∧ (dp_hh z).isEmpty = true ∧ dp_ow z < 9 ∧ (dp_sta z = true ∨ ((z ∈ dp_vids ∨ z = 59 ∨ z = 60) ∧ 1 ≤ dp_na z)) := by
  have h := List.all_eq_true.mp dp_zok_all z (List.mem_range.mpr hz)
  simp only [dp_zok, Bool.and_eq_true, Bool.or_eq_true, decide_eq_true_eq] at h
  obtain ⟨⟨⟨⟨⟨⟨⟨h1, h2⟩, h3⟩, h4⟩, h5⟩, h6⟩, h7⟩, h8⟩ := h
  exact ⟨h1, h2, h3, h4, h5, h6, h7, h8⟩
theorem dp_inits : (dp_nm 59).name = "<init>" ∧ (dp_nm 60).name = "<init>" ∧ dp_sta 59 = false ∧ dp_sta 60 = false ∧ dp_rt 59 = none ∧ dp_rt 60 = none := by decide +kernel
theorem dp_vid_ne {z : Nat} (h : z ∈ dp_vids) : z ≠ 59 ∧ z ≠ 60 := by
  refine ⟨?_, ?_⟩ <;> (rintro rfl; revert h; decide +kernel)
theorem dp_ml_lt : ∀ e ∈ dp_ml, e.2.2 < 77 := by decide +kernel
set_option maxRecDepth 100000 in
theorem dp_fl_ok : ∀ e ∈ dp_fl, e.1 < 9 ∧ e.2.2.1 < 6 ∧ e.2.2.2 < (vwCl.getD e.2.2.1 (RX0, TX0, 5)).2.2 ∧ (dp_TT e.2.2.1 e.2.2.2).1 = (vwCl.getD e.2.2.1 (RX0, TX0, 5)).1 := by decide +kernel
