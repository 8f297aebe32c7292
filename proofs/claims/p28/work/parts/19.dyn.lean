/-! Cells made while the law runs: what is known of them, and rows that read and write them, over any record of them. -/
def ia (m : Nat) (g : Nat → Int32) : dp_Ce := .inr (.inl (false, m, g))
def ba (m : Nat) (g : Nat → Int32) : dp_Ce := .inr (.inl (true, m, g))
def ra (b : Bool) (m : Nat) (g : Nat → Option Nat) : dp_Ce := .inr (.inr (b, m, g))
def ob (ci : Nat) (fs : List Value) : dp_Ce := .inl (ci, fs)
/-- what was known is known -/
def Kp (o o1 : dp_O) : Prop := ∀ h c, o h = some c → o1 h = some c
/-- all but one handle are as they were -/
def Wr (o o1 : dp_O) (h : Nat) : Prop := ∀ k, k ≠ h → o1 k = o k
def IA (o : dp_O) (h m : Nat) (v : Nat → Int32) : Prop := ∃ g, o h = some (ia m g) ∧ ∀ k, k < m → g k = v k
def BA (o : dp_O) (h m : Nat) (v : Nat → Int32) : Prop := ∃ g, o h = some (ba m g) ∧ ∀ k, k < m → g k = v k
def RW (o : dp_O) (b : Bool) (h m : Nat) (v : Nat → Nat) : Prop := ∃ g, o h = some (ra b m g) ∧ ∀ k, k < m → g k = some (v k)
def OB (o : dp_O) (h ci : Nat) (fs : List Value) : Prop := o h = some (ob ci fs)
theorem Kp.refl (o : dp_O) : Kp o o := fun _ _ h => h
theorem Kp.trans {o o1 o2 : dp_O} (h1 : Kp o o1) (h2 : Kp o1 o2) : Kp o o2 := fun h c e => h2 h c (h1 h c e)
theorem Kp.nn {o o1 : dp_O} (h : Kp o o1) {r : Nat} (e : o1 r = none) : o r = none := by
  cases e2 : o r with
  | none => rfl
  | some c => rw [h r c e2] at e; cases e
theorem Kp.wr {o o1 o2 : dp_O} {h : Nat} (h1 : Kp o o1) (hn : o h = none) (hw : Wr o1 o2 h) : Kp o o2 := fun k c e => by
  have hk : k ≠ h := fun z => by rw [z, hn] at e; cases e
  rw [hw k hk]
  exact h1 k c e
theorem IA.kp {o o1 : dp_O} {h m : Nat} {v : Nat → Int32} (h1 : IA o h m v) (hk : Kp o o1) : IA o1 h m v := by
  obtain ⟨g, e, f⟩ := h1
  exact ⟨g, hk _ _ e, f⟩
theorem BA.kp {o o1 : dp_O} {h m : Nat} {v : Nat → Int32} (h1 : BA o h m v) (hk : Kp o o1) : BA o1 h m v := by
  obtain ⟨g, e, f⟩ := h1
  exact ⟨g, hk _ _ e, f⟩
theorem RW.kp {o o1 : dp_O} {b : Bool} {h m : Nat} {v : Nat → Nat} (h1 : RW o b h m v) (hk : Kp o o1) : RW o1 b h m v := by
  obtain ⟨g, e, f⟩ := h1
  exact ⟨g, hk _ _ e, f⟩
theorem OB.kp {o o1 : dp_O} {h ci : Nat} {fs : List Value} (h1 : OB o h ci fs) (hk : Kp o o1) : OB o1 h ci fs := hk _ _ h1
theorem IA.wr {o o1 : dp_O} {h k m : Nat} {v : Nat → Int32} (h1 : IA o h m v) (hw : Wr o o1 k) (hn : h ≠ k) : IA o1 h m v := by
  obtain ⟨g, e, f⟩ := h1
  exact ⟨g, by rw [hw h hn]; exact e, f⟩
theorem BA.wr {o o1 : dp_O} {h k m : Nat} {v : Nat → Int32} (h1 : BA o h m v) (hw : Wr o o1 k) (hn : h ≠ k) : BA o1 h m v := by
  obtain ⟨g, e, f⟩ := h1
  exact ⟨g, by rw [hw h hn]; exact e, f⟩
theorem RW.wr {o o1 : dp_O} {b : Bool} {h k m : Nat} {v : Nat → Nat} (h1 : RW o b h m v) (hw : Wr o o1 k) (hn : h ≠ k) : RW o1 b h m v := by
  obtain ⟨g, e, f⟩ := h1
  exact ⟨g, by rw [hw h hn]; exact e, f⟩
theorem OB.wr {o o1 : dp_O} {h k ci : Nat} {fs : List Value} (h1 : OB o h ci fs) (hw : Wr o o1 k) (hn : h ≠ k) : OB o1 h ci fs := (hw h hn).trans h1
theorem IA.congr {o : dp_O} {h m : Nat} {v w : Nat → Int32} (h1 : IA o h m v) (e : ∀ k, k < m → v k = w k) : IA o h m w := by
  obtain ⟨g, e1, f⟩ := h1
  exact ⟨g, e1, fun k hk => (f k hk).trans (e k hk)⟩
theorem BA.congr {o : dp_O} {h m : Nat} {v w : Nat → Int32} (h1 : BA o h m v) (e : ∀ k, k < m → v k = w k) : BA o h m w := by
  obtain ⟨g, e1, f⟩ := h1
  exact ⟨g, e1, fun k hk => (f k hk).trans (e k hk)⟩
theorem RW.congr {o : dp_O} {b : Bool} {h m : Nat} {v w : Nat → Nat} (h1 : RW o b h m v) (e : ∀ k, k < m → v k = w k) : RW o b h m w := by
  obtain ⟨g, e1, f⟩ := h1
  exact ⟨g, e1, fun k hk => (f k hk).trans (congrArg some (e k hk))⟩
-- two cells of two kinds, or one known and one not, are two
theorem IA.sm {o : dp_O} {h m : Nat} {v : Nat → Int32} (h1 : IA o h m v) : ∃ c, o h = some c := by
  obtain ⟨g, e, -⟩ := h1
  exact ⟨_, e⟩
theorem BA.sm {o : dp_O} {h m : Nat} {v : Nat → Int32} (h1 : BA o h m v) : ∃ c, o h = some c := by
  obtain ⟨g, e, -⟩ := h1
  exact ⟨_, e⟩
theorem RW.sm {o : dp_O} {b : Bool} {h m : Nat} {v : Nat → Nat} (h1 : RW o b h m v) : ∃ c, o h = some c := by
  obtain ⟨g, e, -⟩ := h1
  exact ⟨_, e⟩
theorem OB.sm {o : dp_O} {h ci : Nat} {fs : List Value} (h1 : OB o h ci fs) : ∃ c, o h = some c := ⟨_, h1⟩
theorem sm_ne {o : dp_O} {h r : Nat} (h1 : ∃ c, o h = some c) (hn : o r = none) : h ≠ r := by
  rintro rfl
  obtain ⟨c, e⟩ := h1
  rw [hn] at e
  cases e
theorem IA.ne_B {o : dp_O} {h k m n : Nat} {v w : Nat → Int32} (h1 : IA o h m v) (h2 : BA o k n w) : h ≠ k := by
  rintro rfl
  obtain ⟨g, e, -⟩ := h1
  obtain ⟨g2, e2, -⟩ := h2
  rw [e] at e2
  cases e2
theorem IA.ne_R {o : dp_O} {h k m n : Nat} {b : Bool} {v : Nat → Int32} {w : Nat → Nat} (h1 : IA o h m v) (h2 : RW o b k n w) : h ≠ k := by
  rintro rfl
  obtain ⟨g, e, -⟩ := h1
  obtain ⟨g2, e2, -⟩ := h2
  rw [e] at e2
  cases e2
theorem IA.ne_O {o : dp_O} {h k m ci : Nat} {v : Nat → Int32} {fs : List Value} (h1 : IA o h m v) (h2 : OB o k ci fs) : h ≠ k := by
  rintro rfl
  obtain ⟨g, e, -⟩ := h1
  unfold OB at h2
  rw [e] at h2
  cases h2
theorem BA.ne_R {o : dp_O} {h k m n : Nat} {b : Bool} {v : Nat → Int32} {w : Nat → Nat} (h1 : BA o h m v) (h2 : RW o b k n w) : h ≠ k := by
  rintro rfl
  obtain ⟨g, e, -⟩ := h1
  obtain ⟨g2, e2, -⟩ := h2
  rw [e] at e2
  cases e2
theorem BA.ne_O {o : dp_O} {h k m ci : Nat} {v : Nat → Int32} {fs : List Value} (h1 : BA o h m v) (h2 : OB o k ci fs) : h ≠ k := by
  rintro rfl
  obtain ⟨g, e, -⟩ := h1
  unfold OB at h2
  rw [e] at h2
  cases h2
theorem RW.ne_O {o : dp_O} {h k m ci : Nat} {b : Bool} {v : Nat → Nat} {fs : List Value} (h1 : RW o b h m v) (h2 : OB o k ci fs) : h ≠ k := by
  rintro rfl
  obtain ⟨g, e, -⟩ := h1
  unfold OB at h2
  rw [e] at h2
  cases h2
theorem RW.ne_b {o : dp_O} {h k m n : Nat} {v w : Nat → Nat} (h1 : RW o false h m v) (h2 : RW o true k n w) : h ≠ k := by
  rintro rfl
  obtain ⟨g, e, -⟩ := h1
  obtain ⟨g2, e2, -⟩ := h2
  rw [e] at e2
  cases e2
theorem OB.ne_c {o : dp_O} {h k : Nat} {fs gs : List Value} (h1 : OB o h 4 fs) (h2 : OB o k 5 gs) : h ≠ k := by
  rintro rfl
  unfold OB at h1 h2
  rw [h1] at h2
  cases h2
theorem Wr.sym {o : dp_O} {h : Nat} {c : dp_Ce} : Wr o (dp_ou o h c) h := fun k hk => if_neg hk
theorem ou_s {o : dp_O} {h : Nat} {c : dp_Ce} : dp_ou o h c h = some c := if_pos rfl
theorem ou_kp {o : dp_O} {h : Nat} {c : dp_Ce} (hn : o h = none) : Kp o (dp_ou o h c) := fun k d e => by
  have hk : k ≠ h := fun z => by rw [z, hn] at e; cases e
  exact (if_neg hk).trans e
theorem IA_up {o : dp_O} {h m j : Nat} {g v : Nat → Int32} {x : Int32} (f : ∀ k, k < m → g k = v k) : IA (dp_ou o h (ia m (upd g j x))) h m (fun k => if k = j then x else v k) := by
  refine ⟨_, ou_s, fun k hk => ?_⟩
  show (if k = j then x else g k) = (if k = j then x else v k)
  by_cases e : k = j
  · rw [if_pos e, if_pos e]
  · rw [if_neg e, if_neg e, f k hk]
theorem BA_up {o : dp_O} {h m j : Nat} {g v : Nat → Int32} {x : Int32} (f : ∀ k, k < m → g k = v k) : BA (dp_ou o h (ba m (upd g j x))) h m (fun k => if k = j then x else v k) := by
  refine ⟨_, ou_s, fun k hk => ?_⟩
  show (if k = j then x else g k) = (if k = j then x else v k)
  by_cases e : k = j
  · rw [if_pos e, if_pos e]
  · rw [if_neg e, if_neg e, f k hk]
theorem lci_7 : dp_lo dp_ci 6 7 = some (nI 2147483647) := by decide +kernel
theorem lci_8 : dp_lo dp_ci 6 8 = some (nI 790386105) := by decide +kernel
section KD
variable {X : dp_X} {call : dp_C} {d y : Nat} {Q : dp_Q} {K : dp_K} {pc n c q : Nat} {L : dp_L} {st : List Value} {M : dp_M} {o : dp_O}
theorem n_get (hK : dp_clo X call d y Q K) {i len h ow ci k : Nat} {fs : List Value} (v : Value) (hi : dp_tab y pc = (.getfield i, len)) (how : dp_ow y = ow) (hf : dp_fld ow i = some (ci, k)) (ho : OB o h ci fs) (hv : dp_gtv fs k = some v) (hh : K (pc + 3) L (v :: st) n c q M o) : K pc L (.ref h :: st) n c q M o := k_dget hK v hi how hf ho hv hh
theorem n_put (hK : dp_clo X call d y Q K) {i len h ow ci k : Nat} {fs : List Value} {v : Value} (fs' : List Value) (hi : dp_tab y pc = (.putfield i, len)) (how : dp_ow y = ow) (hf : dp_fld ow i = some (ci, k)) (hci : ci = 4 ∨ ci = 5) (ho : OB o h ci fs) (hk : k < fs.length) (hv : dp_fv (dp_ft ci k) v) (hfs : fs.set k v = fs') (hh : ∀ o1, Wr o o1 h → OB o1 h ci fs' → K (pc + 3) L st n c q M o1) : K pc L (v :: .ref h :: st) n c q M o := k_dput hK hi how hf hci ho hk hv hfs (hh _ Wr.sym ou_s)
theorem n_iald (hK : dp_clo X call d y Q K) {len h m : Nat} {g : Nat → Int32} {i : Int32} (v : Int32) (j : Nat) (hi : dp_tab y pc = (.iaload, len)) (ho : IA o h m g) (hm : m < 2 ^ 31) (hij : i = nI j) (hj : j < m) (hv : g j = v) (hh : K (pc + 1) L (.int v :: st) n c q M o) : K pc L (.int i :: .ref h :: st) n c q M o := by
  obtain ⟨f, e, ef⟩ := ho
  exact k_diald hK v j hi e hm hij hj ((ef j hj).trans hv) hh
theorem n_bald (hK : dp_clo X call d y Q K) {len h m : Nat} {g : Nat → Int32} {i : Int32} (v : Int32) (j : Nat) (hi : dp_tab y pc = (.baload, len)) (ho : BA o h m g) (hm : m < 2 ^ 31) (hij : i = nI j) (hj : j < m) (hv : g j = v) (hh : K (pc + 1) L (.int v :: st) n c q M o) : K pc L (.int i :: .ref h :: st) n c q M o := by
  obtain ⟨f, e, ef⟩ := ho
  exact k_dbald hK v j hi e hm hij hj ((ef j hj).trans hv) hh
theorem n_aald (hK : dp_clo X call d y Q K) {len h m : Nat} {b : Bool} {g : Nat → Nat} {i : Int32} (j : Nat) (hi : dp_tab y pc = (.aaload, len)) (ho : RW o b h m g) (hm : m < 2 ^ 31) (hij : i = nI j) (hj : j < m) (hh : K (pc + 1) L (.ref (g j) :: st) n c q M o) : K pc L (.int i :: .ref h :: st) n c q M o := by
  obtain ⟨f, e, ef⟩ := ho
  exact k_daald hK (g j) j hi e hm hij hj (ef j hj) hh
theorem n_alenI (hK : dp_clo X call d y Q K) {len h m : Nat} {g : Nat → Int32} (hi : dp_tab y pc = (.arraylength, len)) (ho : IA o h m g) (hh : K (pc + 1) L (.int (nI m) :: st) n c q M o) : K pc L (.ref h :: st) n c q M o := by
  obtain ⟨f, e, ef⟩ := ho
  exact k_dalen hK hi e rfl hh
theorem n_alenR (hK : dp_clo X call d y Q K) {len h m : Nat} {b : Bool} {g : Nat → Nat} (hi : dp_tab y pc = (.arraylength, len)) (ho : RW o b h m g) (hh : K (pc + 1) L (.int (nI m) :: st) n c q M o) : K pc L (.ref h :: st) n c q M o := by
  obtain ⟨f, e, ef⟩ := ho
  exact k_dalen hK hi e rfl hh
theorem n_iast (hK : dp_clo X call d y Q K) {len h m : Nat} {g : Nat → Int32} {i x : Int32} (j : Nat) (hi : dp_tab y pc = (.iastore, len)) (ho : IA o h m g) (hm : m < 2 ^ 31) (hij : i = nI j) (hj : j < m) (hh : ∀ o1, Wr o o1 h → IA o1 h m (fun k => if k = j then x else g k) → K (pc + 1) L st n c q M o1) : K pc L (.int x :: .int i :: .ref h :: st) n c q M o := by
  obtain ⟨f, e, ef⟩ := ho
  exact k_diast hK j hi e hm hij hj (hh _ Wr.sym (IA_up ef))
theorem n_bast (hK : dp_clo X call d y Q K) {len h m : Nat} {g : Nat → Int32} {i x : Int32} (j : Nat) (hi : dp_tab y pc = (.bastore, len)) (ho : BA o h m g) (hm : m < 2 ^ 31) (hij : i = nI j) (hj : j < m) (hx : x = nI 1) (hh : ∀ o1, Wr o o1 h → BA o1 h m (fun k => if k = j then nI 1 else g k) → K (pc + 1) L st n c q M o1) : K pc L (.int x :: .int i :: .ref h :: st) n c q M o := by
  obtain ⟨f, e, ef⟩ := ho
  exact k_dbast hK j hi e hm hij hj hx (hh _ Wr.sym (BA_up ef))
/-- a row of references that has its first places set -/
def RP (o : dp_O) (b : Bool) (h m j : Nat) (v : Nat → Nat) : Prop := ∃ g, o h = some (ra b m g) ∧ ∀ k, k < j → g k = some (v k)
theorem RP.full {b : Bool} {h m : Nat} {v : Nat → Nat} (h1 : RP o b h m m v) : RW o b h m v := h1
theorem RP.kp {o1 : dp_O} {b : Bool} {h m j : Nat} {v : Nat → Nat} (h1 : RP o b h m j v) (hk : Kp o o1) : RP o1 b h m j v := by
  obtain ⟨g, e, f⟩ := h1
  exact ⟨g, hk _ _ e, f⟩
theorem RW.rp {b : Bool} {h m : Nat} {v : Nat → Nat} (h1 : RW o b h m v) : RP o b h m m v := h1
theorem n_aast (hK : dp_clo X call d y Q K) {len h m j0 v : Nat} {b : Bool} {g : Nat → Nat} {i : Int32} (j : Nat) (hi : dp_tab y pc = (.aastore, len)) (ho : RP o b h m j0 g) (hm : m < 2 ^ 31) (hij : i = nI j) (hj : j < m) (hj0 : j ≤ j0) (he : dp_el o b v) (hh : ∀ o1, Wr o o1 h → RP o1 b h m (max j0 (j + 1)) (fun k => if k = j then v else g k) → K (pc + 1) L st n c q M o1) : K pc L (.ref v :: .int i :: .ref h :: st) n c q M o := by
  obtain ⟨f, e, ef⟩ := ho
  refine k_daast hK j hi e hm hij hj he (hh _ Wr.sym ⟨_, ou_s, fun k hk => ?_⟩)
  by_cases e9 : k = j
  · simp only [if_pos e9]
  · simp only [if_neg e9]
    exact ef k (by omega)
theorem n_newI (hK : dp_clo X call d y Q K) {len mcy msy : Nat} {i : Int32} (m : Nat) (hi : dp_tab y pc = (.newarray .int, len)) (hmc : dp_mc y = mcy) (hms : dp_ms y = msy) (him : i = nI m) (hm : m ≤ 1000) (hc : c + 1 ≤ mcy) (hq : q + m ≤ msy) (hh : ∀ r o1, o r = none → Kp o o1 → IA o1 r m (fun _ => nI 0) → K (pc + 2) L (.ref r :: st) n (c + 1) (q + m) M o1) : K pc L (.int i :: st) n c q M o := k_newI hK m hi hmc hms him hm hc hq (fun a ha => hh _ _ ha (ou_kp ha) ⟨_, ou_s, fun _ _ => rfl⟩)
theorem n_newZ (hK : dp_clo X call d y Q K) {len mcy msy : Nat} {i : Int32} (m : Nat) (hi : dp_tab y pc = (.newarray .boolean, len)) (hmc : dp_mc y = mcy) (hms : dp_ms y = msy) (him : i = nI m) (hm : m ≤ 1000) (hc : c + 1 ≤ mcy) (hq : q + m ≤ msy) (hh : ∀ r o1, o r = none → Kp o o1 → BA o1 r m (fun _ => nI 0) → K (pc + 2) L (.ref r :: st) n (c + 1) (q + m) M o1) : K pc L (.int i :: st) n c q M o := k_newZ hK m hi hmc hms him hm hc hq (fun a ha => hh _ _ ha (ou_kp ha) ⟨_, ou_s, fun _ _ => rfl⟩)
theorem n_newR (hK : dp_clo X call d y Q K) {len ow k mcy msy : Nat} {i : Int32} (b : Bool) (m : Nat) (hi : dp_tab y pc = (.anewarray k, len)) (how : dp_ow y = ow) (han : dp_an ow k = some b) (hmc : dp_mc y = mcy) (hms : dp_ms y = msy) (him : i = nI m) (hm : m ≤ 1000) (hc : c + 1 ≤ mcy) (hq : q + m ≤ msy) (hh : ∀ r o1, o r = none → Kp o o1 → RP o1 b r m 0 (fun _ => 0) → K (pc + 3) L (.ref r :: st) n (c + 1) (q + m) M o1) : K pc L (.int i :: st) n c q M o := k_newR hK b m hi how han hmc hms him hm hc hq (fun a ha => hh _ _ ha (ou_kp ha) ⟨_, ou_s, fun k hk => absurd hk (Nat.not_lt_zero k)⟩)
theorem n_newO (hK : dp_clo X call d y Q K) {len ow k mcy msy : Nat} (ci : Nat) (hi : dp_tab y pc = (.new k, len)) (how : dp_ow y = ow) (han : dp_nw ow k = some ci) (hmc : dp_mc y = mcy) (hms : dp_ms y = msy) (hc : c + 1 ≤ mcy) (hq : q + 5 ≤ msy) (hh : ∀ r o1, o r = none → Kp o o1 → OB o1 r ci (dp_df ci) → K (pc + 3) L (.ref r :: st) n (c + 1) (q + 5) M o1) : K pc L st n c q M o := k_newO hK ci hi how han hmc hms hc hq (fun a ha => hh _ _ ha (ou_kp ha) ou_s)
end KD
/-- the law's own bureau, by its handles: stems, rows of words, ages, clients; words of an article, a client, its wishes, what it was sent -/
def SR (o : dp_O) (S hs hw ha hc : Nat) (W C V B : Nat → Nat) (s : GSt) (l : LSt) : Prop :=
  OB o S 5 [.ref hs, .ref hw, .ref ha, .ref hc, .int (l_rnd l)] ∧ IA o hs 40 (fun w => nI (g_st s w)) ∧ RW o false hw (g_nA s) W ∧ (∀ a, a < g_nA s → IA o (W a) (g_len s a) (fun k => nI (g_wd s a k))) ∧ IA o ha 16 (l_age l) ∧ RW o true hc (g_nC s) C ∧
  (∀ c, c < g_nC s → OB o (C c) 4 [.int (l_coin l c), .int (g_bar s c), .int (l_paid l c), .ref (V c), .ref (B c)]) ∧ (∀ c, c < g_nC s → IA o (V c) (g_many s c) (fun k => nI (g_wish s c k))) ∧ (∀ c, c < g_nC s → BA o (B c) 16 (fun a => bl (bit (l_sent l c) a))) ∧
  hs ≠ ha ∧ (∀ a, a < g_nA s → W a ≠ hs ∧ W a ≠ ha) ∧ (∀ c, c < g_nC s → V c ≠ hs ∧ V c ≠ ha) ∧ (∀ c k, c < g_nC s → k < g_nC s → C c = C k → c = k) ∧ (∀ c k, c < g_nC s → k < g_nC s → B c = B k → c = k)
section SRA
variable {o : dp_O} {S hs hw ha hc : Nat} {W C V B : Nat → Nat} {s : GSt} {l : LSt}
theorem SR.ob (h : SR o S hs hw ha hc W C V B s l) : OB o S 5 [.ref hs, .ref hw, .ref ha, .ref hc, .int (l_rnd l)] := h.1
theorem SR.st (h : SR o S hs hw ha hc W C V B s l) : IA o hs 40 (fun w => nI (g_st s w)) := h.2.1
theorem SR.rw (h : SR o S hs hw ha hc W C V B s l) : RW o false hw (g_nA s) W := h.2.2.1
theorem SR.wd (h : SR o S hs hw ha hc W C V B s l) (a : Nat) (ha : a < g_nA s) : IA o (W a) (g_len s a) (fun k => nI (g_wd s a k)) := h.2.2.2.1 a ha
theorem SR.age (h : SR o S hs hw ha hc W C V B s l) : IA o ha 16 (l_age l) := h.2.2.2.2.1
theorem SR.rc (h : SR o S hs hw ha hc W C V B s l) : RW o true hc (g_nC s) C := h.2.2.2.2.2.1
theorem SR.cl (h : SR o S hs hw ha hc W C V B s l) (c : Nat) (hc : c < g_nC s) : OB o (C c) 4 [.int (l_coin l c), .int (g_bar s c), .int (l_paid l c), .ref (V c), .ref (B c)] := h.2.2.2.2.2.2.1 c hc
theorem SR.wi (h : SR o S hs hw ha hc W C V B s l) (c : Nat) (hc : c < g_nC s) : IA o (V c) (g_many s c) (fun k => nI (g_wish s c k)) := h.2.2.2.2.2.2.2.1 c hc
theorem SR.se (h : SR o S hs hw ha hc W C V B s l) (c : Nat) (hc : c < g_nC s) : BA o (B c) 16 (fun a => bl (bit (l_sent l c) a)) := h.2.2.2.2.2.2.2.2.1 c hc
theorem SR.d1 (h : SR o S hs hw ha hc W C V B s l) : hs ≠ ha := h.2.2.2.2.2.2.2.2.2.1
theorem SR.d2 (h : SR o S hs hw ha hc W C V B s l) (a : Nat) (ha9 : a < g_nA s) : W a ≠ hs ∧ W a ≠ ha := h.2.2.2.2.2.2.2.2.2.2.1 a ha9
theorem SR.d3 (h : SR o S hs hw ha hc W C V B s l) (c : Nat) (hc9 : c < g_nC s) : V c ≠ hs ∧ V c ≠ ha := h.2.2.2.2.2.2.2.2.2.2.2.1 c hc9
theorem SR.d4 (h : SR o S hs hw ha hc W C V B s l) {c k : Nat} (h1 : c < g_nC s) (h2 : k < g_nC s) (e : C c = C k) : c = k := h.2.2.2.2.2.2.2.2.2.2.2.2.1 c k h1 h2 e
theorem SR.d5 (h : SR o S hs hw ha hc W C V B s l) {c k : Nat} (h1 : c < g_nC s) (h2 : k < g_nC s) (e : B c = B k) : c = k := h.2.2.2.2.2.2.2.2.2.2.2.2.2 c k h1 h2 e
theorem SR.kp {o1 : dp_O} (h : SR o S hs hw ha hc W C V B s l) (hk : Kp o o1) : SR o1 S hs hw ha hc W C V B s l := by
  obtain ⟨h1, h2, h3, h4, h5, h6, h7, h8, h9, hd⟩ := h
  exact ⟨h1.kp hk, h2.kp hk, h3.kp hk, fun a ha => (h4 a ha).kp hk, h5.kp hk, h6.kp hk, fun c hc => (h7 c hc).kp hk, fun c hc => (h8 c hc).kp hk, fun c hc => (h9 c hc).kp hk, hd⟩
end SRA
