/-! The deep semantics is sound over the machine: one instruction. -/
abbrev dp_rm (z d : Nat) : Room := { frames := d, cells := dp_mc z, slots := dp_ms z, locals := 30 * d + 60 + dp_xl z }
def dp_wrl (g : dp_G) (A : Nat → Prop) (ad : Nat → Nat) (M : dp_M) (o : dp_O) (H : Heap) : Prop := ∃ ds : dp_D, dp_rep o ds ∧ va_P g.1 vwCl (dp_ww g ad M ds) H ∧ va_D A (dp_ww g ad M ds)
def dp_Qc (g : dp_G) (A : Nat → Prop) (ad : Nat → Nat) (Q : dp_Q) : Array Value → State → Outcome → State → Prop := fun _ st oc t =>
  (∃ (v : Option Value) (M : dp_M) (o : dp_O), oc = .returned (v.map (dp_cv ad)) ∧ Q (.inl v) M o ∧ dp_wrl g A ad M o t.heap) ∧ va_F A st t
def dp_XC (g : dp_G) (A : Nat → Prop) (ad : Nat → Nat) (Q : dp_Q) : String → State → State → Prop := fun E st t =>
  (∃ (k : Nat) (M : dp_M) (o : dp_O), E = dp_exn k ∧ k ≤ 2 ∧ Q (.inr k) M o ∧ dp_wrl g A ad M o t.heap) ∧ va_F A st t
def dp_Pc (g : dp_G) (X : dp_X) (b : Nat) (A : Nat → Prop) (ad : Nat → Nat) (M : dp_M) (o : dp_O) : State → Prop := fun U =>
  dp_GF g X b A U ∧ dp_wrl g A ad M o U.heap
/-- what a call asks of its method -/
def dp_Mt (l : Launch) (g : dp_G) (X : dp_X) (b : Nat) (A : Nat → Prop) (d : Nat) : dp_C := fun z as n M o Q =>
  n = 65 → dp_asz as ≤ dp_mL z → ∀ ad : Nat → Nat, dp_adk ad b → vx_Met l (dp_nm z) (dp_codeW z :: dp_wd) (dp_rm z d) (va_Pc (as.map (dp_cv ad)) (dp_Pc g X b A ad M o)) (dp_Qc g A ad Q) (dp_XC g A ad Q) (dp_mc z) (dp_ms z) A
def dp_isr (y pc : Nat) (v : Option Value) : Prop :=
  (decode (dp_by y) pc = .ok (.return_, 1) ∧ v = none ∧ dp_rk y = 0) ∨ (∃ x : Int32, decode (dp_by y) pc = .ok (.ireturn, 1) ∧ v = some (.int x) ∧ dp_rz (dp_rk y) x) ∨
  (∃ x : Int64, decode (dp_by y) pc = .ok (.lreturn, 1) ∧ v = some (.long x) ∧ dp_rk y = 2) ∨ (∃ x : UInt64, decode (dp_by y) pc = .ok (.dreturn, 1) ∧ v = some (.double x) ∧ dp_rk y = 3) ∨
  (∃ x : Nat, decode (dp_by y) pc = .ok (.areturn, 1) ∧ v = some (.ref x) ∧ (dp_rk y = 5 ∨ dp_rk y = 6))
section DPS
variable {p : Program} {l : Launch} {e : Env} {R : Room} {s : State} {m : MethodId} {args : Array Value} {below : List Frame} {meth : Method} {c : Code} {Qm : State → Prop}
variable {g : dp_G} {X : dp_X} {b : Nat} {A : Nat → Prop} {y d : Nat} {ad : Nat → Nat} {Q : dp_Q}
def dp_KW (p : Program) (l : Launch) (e : Env) (R : Room) (s : State) (m : MethodId) (args : Array Value) (below : List Frame) (meth : Method) (c : Code) (Qm : State → Prop) (g : dp_G) (A : Nat → Prop) (nL : Nat) (ad : Nat → Nat) : dp_K := fun pc L st n cc q M o =>
  n = 65 → ∀ (ds : dp_D) (H : Heap) (locs : List Loc) (ls : Array Slot), dp_rep o ds → dp_LH ls nL ad L → va_P g.1 vwCl (dp_ww g ad M ds) H → va_D A (dp_ww g ad M ds) → va_S A s.heap H locs →
    W p l e R s m args below meth c H locs cc q Qm (F0 m pc ls (st.map (dp_cv ad)))
/-- what a body stands on -/
def dp_Cx (p : Program) (l : Launch) (R : Room) (s : State) (m : MethodId) (args : Array Value) (c : Code) (g : dp_G) (X : dp_X) (b : Nat) (A : Nat → Prop) (y d : Nat) : Prop :=
  p.tables.exec = Jvm.exec ∧ c.code = dp_by y ∧ c.maxLocals = dp_mL y ∧ s.vm.findClass (dp_o (dp_ow y)) = some m.cls ∧ (∀ w ∈ dp_wd, w.before args s = true) ∧ l.stackTraces = false ∧
  c.exceptionTable.toList = [] ∧ 1 ≤ d ∧ d ≤ R.frames ∧ 30 * d + 60 + dp_xl y ≤ R.locals ∧ R.cells = dp_mc y ∧ R.slots = dp_ms y ∧ y < 78 ∧ dp_GF g X b A s
/-- a return -/
def dp_En (p : Program) (l : Launch) (e : Env) (R : Room) (s : State) (m : MethodId) (args : Array Value) (below : List Frame) (meth : Method) (c : Code) (Qm : State → Prop) (g : dp_G) (A : Nat → Prop) (y : Nat) (ad : Nat → Nat) (Q : dp_Q) : Prop :=
  ∀ (v : Option Value) (pc cc q : Nat) (M : dp_M) (o : dp_O) (ds : dp_D) (H : Heap) (locs : List Loc) (ls : Array Slot), dp_rep o ds → va_P g.1 vwCl (dp_ww g ad M ds) H → va_D A (dp_ww g ad M ds) → va_S A s.heap H locs →
    dp_isr y pc v → cc ≤ dp_mc y → q ≤ dp_ms y → Q (.inl v) M o → W p l e R s m args below meth c H locs cc q Qm (F0 m pc ls (v.toList.map (dp_cv ad)))
/-- an exception of a callee leaves -/
def dp_Ex (p : Program) (l : Launch) (e : Env) (R : Room) (s : State) (m : MethodId) (args : Array Value) (below : List Frame) (meth : Method) (c : Code) (Qm : State → Prop) (g : dp_G) (A : Nat → Prop) (y : Nat) (ad : Nat → Nat) (Q : dp_Q) : Prop :=
  ∀ (k pc cc q : Nat) (M : dp_M) (o : dp_O) (ds : dp_D) (H : Heap) (locs : List Loc) (ls : Array Slot) (st : List Value) (ce : Cell) (q9 : Addr), dp_rep o ds → va_P g.1 vwCl (dp_ww g ad M ds) H → va_D A (dp_ww g ad M ds) → va_S A s.heap H locs →
    k ≤ 2 → H[q9]? = some ce → ce.vm = .none → s.vm.findClass (dp_exn k) = some ce.cls → cc ≤ dp_mc y → q ≤ dp_ms y → Q (.inr k) M o → vx_W p l e R s m args below meth c H locs cc q Qm (F0 m pc ls st) q9
/-- a throw here -/
def dp_Nw (p : Program) (l : Launch) (e : Env) (R : Room) (s : State) (m : MethodId) (args : Array Value) (below : List Frame) (meth : Method) (c : Code) (Qm : State → Prop) (g : dp_G) (A : Nat → Prop) (y d : Nat) (ad : Nat → Nat) (Q : dp_Q) : Prop :=
  ∀ (i pc cc q : Nat) (M : dp_M) (o : dp_O) (ds : dp_D) (H : Heap) (locs : List Loc) (ls : Array Slot) (st : List Value), dp_rep o ds → ls.size = dp_mL y → va_P g.1 vwCl (dp_ww g ad M ds) H → va_D A (dp_ww g ad M ds) → va_S A s.heap H locs →
    decode (dp_by y) pc = .ok (.new i, 3) → dp_npat (dp_tl y) pc i = true → dp_ow y = 3 → dp_ec i ≤ 2 → dp_exk (dp_ec i) = i → dp_thr d y Q st cc q M o (dp_ec i) → W p l e R s m args below meth c H locs cc q Qm (F0 m pc ls (st.map (dp_cv ad)))
theorem dp_jt_eq {pc : Nat} {off : Int} (h : 0 ≤ (pc : Int) + off) : (pc : Int) + off = ((dp_jt pc off : Nat) : Int) := by
  unfold dp_jt
  omega
theorem dp_sum_le (ad : Nat → Nat) : ∀ (r : List Value), ((r.map (dp_cv ad)).map fun v => v.category).sum ≤ 2 * r.length
  | [] => Nat.le_refl _
  | v :: t => by
    have h1 := dp_sum_le ad t
    have h2 : (dp_cv ad v).category ≤ 2 := by
      rcases lv_cat (dp_cv ad v) with h | h <;> omega
    simp only [List.map_cons, List.sum_cons, List.length_cons]
    omega
theorem dp_KW.msk {b9 : List Bool} {pc : Nat} {L : dp_L} {st : List Value} {n cc q nL : Nat} {M : dp_M} {o : dp_O} (h : dp_KW p l e R s m args below meth c Qm g A nL ad pc (dp_msk b9 L) st n cc q M o) : dp_KW p l e R s m args below meth c Qm g A nL ad pc L st n cc q M o :=
  fun h0 ds H locs ls h1 h3 h4 h5 h6 => h h0 ds H locs ls h1 ⟨h3.1, h3.2.1, fun i v hi => h3.2.2 i v (dp_msk_gt b9 L i v hi)⟩ h4 h5 h6
theorem dp_KW.wid {pc : Nat} {L : dp_L} {st : List Value} {n cc q cc' q' nL : Nat} {M : dp_M} {o : dp_O} (hc : cc ≤ cc') (hq : q ≤ q') (h : dp_KW p l e R s m args below meth c Qm g A nL ad pc L st n cc' q' M o) : dp_KW p l e R s m args below meth c Qm g A nL ad pc L st n cc q M o :=
  fun h0 ds H locs ls h1 h3 h4 h5 h6 => W.widen hc hq (h h0 ds H locs ls h1 h3 h4 h5 h6)
-- loads
theorem dp_li_of {L : dp_L} {i : Nat} {f : Int32 → Prop} (h : dp_li L i f) : ∃ x, dp_gt L i = some (.int x) ∧ f x := by
  unfold dp_li at h
  split at h
  · rename_i x hx
    exact ⟨x, hx, h⟩
  · exact h.elim
theorem dp_lj_of {L : dp_L} {i : Nat} {f : Int64 → Prop} (h : dp_lj L i f) : ∃ x, dp_gt L i = some (.long x) ∧ f x := by
  unfold dp_lj at h
  split at h
  · rename_i x hx
    exact ⟨x, hx, h⟩
  · exact h.elim
theorem dp_ld_of {L : dp_L} {i : Nat} {f : UInt64 → Prop} (h : dp_ld L i f) : ∃ x, dp_gt L i = some (.double x) ∧ f x := by
  unfold dp_ld at h
  split at h
  · rename_i x hx
    exact ⟨x, hx, h⟩
  · exact h.elim
theorem dp_lr_of {L : dp_L} {i : Nat} {f : Nat → Prop} (h : dp_lr L i f) : ∃ x, dp_gt L i = some (.ref x) ∧ f x := by
  unfold dp_lr at h
  split at h
  · rename_i x hx
    exact ⟨x, hx, h⟩
  · exact h.elim
theorem dp_p1_of {st : List Value} {f : Value → List Value → Prop} (h : dp_p1 st f) : ∃ v r, st = v :: r ∧ f v r := by
  unfold dp_p1 at h
  split at h
  · exact ⟨_, _, rfl, h⟩
  · exact h.elim
theorem dp_pi_of {st : List Value} {f : Int32 → List Value → Prop} (h : dp_pi st f) : ∃ x r, st = .int x :: r ∧ f x r := by
  unfold dp_pi at h
  split at h
  · exact ⟨_, _, rfl, h⟩
  · exact h.elim
theorem dp_pj_of {st : List Value} {f : Int64 → List Value → Prop} (h : dp_pj st f) : ∃ x r, st = .long x :: r ∧ f x r := by
  unfold dp_pj at h
  split at h
  · exact ⟨_, _, rfl, h⟩
  · exact h.elim
theorem dp_pd_of {st : List Value} {f : UInt64 → List Value → Prop} (h : dp_pd st f) : ∃ x r, st = .double x :: r ∧ f x r := by
  unfold dp_pd at h
  split at h
  · exact ⟨_, _, rfl, h⟩
  · exact h.elim
theorem dp_pr_of {st : List Value} {f : Nat → List Value → Prop} (h : dp_pr st f) : ∃ x r, st = .ref x :: r ∧ f x r := by
  unfold dp_pr at h
  split at h
  · exact ⟨_, _, rfl, h⟩
  · exact h.elim
theorem dp_opt_of {α : Type} {e : Option α} {f : α → Prop} (h : dp_opt e f) : ∃ x, e = some x ∧ f x := by
  unfold dp_opt at h
  split at h
  · exact ⟨_, rfl, h⟩
  · exact h.elim
theorem dp_get_of {M : dp_M} {h : Nat} {e : Option (Nat × Nat)} {f : Value → Prop} (hh : dp_get M h e f) : ∃ ci k fs v, e = some (ci, k) ∧ dp_obj M h = some (ci, fs) ∧ dp_gtv fs k = some v ∧ f v := by
  unfold dp_get at hh
  split at hh
  · split at hh
    · rename_i ci k x9 q hq
      obtain ⟨h1, h2⟩ := hh
      split at h2
      · rename_i v hv
        exact ⟨ci, k, q.2, v, rfl, by rw [hq, ← h1], hv, h2⟩
      · exact h2.elim
    · exact hh.elim
  · exact hh.elim
theorem dp_put_of {M : dp_M} {h : Nat} {e : Option (Nat × Nat)} {f : Nat → Prop} (hh : dp_put M h e f) : ∃ ci k fs w, e = some (ci, k) ∧ dp_obj M h = some (ci, fs) ∧ dp_gtv fs k = some (.int w) ∧ f k := by
  unfold dp_put at hh
  split at hh
  · split at hh
    · rename_i ci k x9 q hq
      obtain ⟨h1, h2⟩ := hh
      split at h2
      · rename_i w hw
        exact ⟨ci, k, q.2, w, rfl, by rw [hq, ← h1], hw, h2⟩
      · exact h2.elim
    · exact hh.elim
  · exact hh.elim
theorem dp_cel_O {ad : Nat → Nat} {M : dp_M} {h : Nat} {q : Nat × List Value} (hq : dp_obj M h = some q) : dp_cel g ad M h = .inr (q.1, q.2.map (dp_cv ad)) := by
  unfold dp_cel
  rw [hq]
theorem dp_ts_of {x : Int32} : ∀ {lo : Int} {os : List Int} {F : Int → Prop} (i : Nat) (h : dp_ts x lo os F) (hx : x.toInt = lo + i) (hi : i < os.length), ∃ o, os[i]? = some o ∧ F o
  | lo, [], F, i, h, hx, hi => absurd hi (Nat.not_lt_zero _)
  | lo, o :: t, F, 0, h, hx, hi => ⟨o, rfl, h.1 (by simpa using hx)⟩
  | lo, o :: t, F, i + 1, h, hx, hi => by
    obtain ⟨z, h1, h2⟩ := dp_ts_of (lo := lo + 1) (os := t) i h.2 (by rw [hx]; push_cast; omega) (by simpa using hi)
    exact ⟨z, by rw [List.getElem?_cons_succ]; exact h1, h2⟩
end DPS
