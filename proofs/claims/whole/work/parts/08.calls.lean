/-! Calls, throws and handlers in the deep semantics, over the machine. -/
theorem dp_take_of : ∀ (k : Nat) (st acc : List Value) (f : List Value → List Value → Prop), dp_take k st acc f → ∃ t r, t.length = k ∧ st = t ++ r ∧ f (t.reverse ++ acc) r
  | 0, st, acc, f, h => ⟨[], st, rfl, rfl, h⟩
  | k + 1, [], acc, f, h => h.elim
  | k + 1, v :: st, acc, f, h => by
    obtain ⟨t, r, h1, h2, h3⟩ := dp_take_of k st (v :: acc) f h
    refine ⟨v :: t, r, by rw [List.length_cons, h1], by rw [h2]; rfl, ?_⟩
    rw [List.reverse_cons, List.append_assoc]
    exact h3
def dp_hho (y : Nat) : Bool := (dp_hh y).all (fun e => decide (e.2.2.2 = 13 ∨ e.2.2.2 = 19 ∨ e.2.2.2 = 31)) && ((dp_hh y).isEmpty || decide (dp_ow y = 5))
set_option maxRecDepth 100000 in
theorem dp_hho_all : (List.range 147).all dp_hho = true := by decide +kernel
theorem dp_hho_spec {y : Nat} (hy : y < 147) {e : Nat × Nat × Nat × Nat} (he : e ∈ dp_hh y) : (e.2.2.2 = 13 ∨ e.2.2.2 = 19 ∨ e.2.2.2 = 31) ∧ dp_ow y = 5 := by
  have h := List.all_eq_true.mp dp_hho_all y (List.mem_range.mpr hy)
  simp only [dp_hho, Bool.and_eq_true, Bool.or_eq_true, decide_eq_true_eq] at h
  refine ⟨of_decide_eq_true (List.all_eq_true.mp h.1 e he), ?_⟩
  rcases h.2 with h2 | h2
  · rw [List.isEmpty_iff.mp h2] at he
    cases he
  · exact h2
theorem dp_hf_some : ∀ (hh : List (Nat × Nat × Nat × Nat)) (pc k h : Nat), dp_hf hh pc k = some h → ∃ pre x suf, hh = pre ++ x :: suf ∧ x.2.2.1 = h ∧ (x.1 ≤ pc ∧ pc < x.2.1) ∧ dp_hk x.2.2.2 = k ∧ ∀ z ∈ pre, ¬ (z.1 ≤ pc ∧ pc < z.2.1) ∨ dp_hk z.2.2.2 ≠ k
  | [], _, _, _, h => by cases h
  | (a, b, h0, ct) :: t, pc, k, h, hh => by
    unfold dp_hf at hh
    by_cases hc : (a ≤ pc ∧ pc < b) ∧ dp_hk ct = k
    · rw [if_pos hc] at hh
      cases hh
      exact ⟨[], (a, b, h0, ct), t, rfl, rfl, hc.1, hc.2, fun z hz => by cases hz⟩
    · rw [if_neg hc] at hh
      obtain ⟨pre, x, suf, e1, e2, e3, e4, e5⟩ := dp_hf_some t pc k h hh
      refine ⟨(a, b, h0, ct) :: pre, x, suf, by rw [e1]; rfl, e2, e3, e4, fun z hz => ?_⟩
      rcases List.mem_cons.mp hz with rfl | hz
      · by_cases h9 : a ≤ pc ∧ pc < b
        · exact Or.inr (fun q => hc ⟨h9, q⟩)
        · exact Or.inl h9
      · exact e5 z hz
theorem dp_hf_none : ∀ (hh : List (Nat × Nat × Nat × Nat)) (pc k : Nat), dp_hf hh pc k = none → ∀ z ∈ hh, ¬ (z.1 ≤ pc ∧ pc < z.2.1) ∨ dp_hk z.2.2.2 ≠ k
  | [], _, _, _, z, hz => by cases hz
  | (a, b, h0, ct) :: t, pc, k, hh, z, hz => by
    unfold dp_hf at hh
    by_cases hc : (a ≤ pc ∧ pc < b) ∧ dp_hk ct = k
    · rw [if_pos hc] at hh
      cases hh
    · rw [if_neg hc] at hh
      rcases List.mem_cons.mp hz with rfl | hz
      · by_cases h9 : a ≤ pc ∧ pc < b
        · exact Or.inr (fun q => hc ⟨h9, q⟩)
        · exact Or.inl h9
      · exact dp_hf_none t pc k hh z hz
theorem dp_nc_of {s : State} (h : ∀ e ∈ dp_nc, va_Nc e.1 e.2 s) {j k : Nat} (hj : j ≤ 2) (hk : k ≤ 2) (hjk : j ≠ k) : va_Nc (dp_exn j) (dp_exn k) s := by
  have : (dp_exn j, dp_exn k) ∈ dp_nc := by
    rcases (by omega : j = 0 ∨ j = 1 ∨ j = 2) with rfl | rfl | rfl <;> rcases (by omega : k = 0 ∨ k = 1 ∨ k = 2) with rfl | rfl | rfl <;> first | (exact absurd rfl hjk) | (simp [dp_nc])
  exact h _ this
section DPC
variable {p : Program} {l : Launch} {e : Env} {R : Room} {s : State} {m : MethodId} {args : Array Value} {below : List Frame} {meth : Method} {c : Code} {Qm : State → Prop}
variable {g : dp_G} {X : dp_X} {b : Nat} {A : Nat → Prop} {y d n0 : Nat} {ad0 : Nat → Nat} {Q : dp_Q}
/-- a handler of this method, and its class's word -/
theorem dp_hword (hts : ∀ w ∈ dp_wd, w.before args s = true) {ct : Nat} (h : ct = 13 ∨ ct = 19 ∨ ct = 31) : (Cond.classLink RL ct (dp_exn (dp_hk ct))).before args s = true ∧ dp_hk ct ≤ 2 ∧ ct ≠ 0 := by
  rcases h with rfl | rfl | rfl
  · exact ⟨hts _ (dp_wd_x1 2 rfl), by decide, by decide⟩
  · exact ⟨hts _ (dp_wd_x1 5 rfl), by decide, by decide⟩
  · exact ⟨hts _ (dp_wd_x1 8 rfl), by decide, by decide⟩
theorem dp_hpass (C : dp_Cx p l R s m args c g X b A y d) {pc k : Nat} (hk : k ≤ 2) {hs : List (Nat × Nat × Nat × Nat)} (hin : ∀ z ∈ hs, z ∈ dp_hh y) (h : ∀ z ∈ hs, ¬ (z.1 ≤ pc ∧ pc < z.2.1) ∨ dp_hk z.2.2.2 ≠ k) :
    ∀ z ∈ tableOf hs, covers z pc = false ∨ (z.catchType ≠ 0 ∧ ∃ nm : String, (Cond.classLink (dp_o (dp_ow y)) z.catchType nm).before args s = true ∧ va_Nc (dp_exn k) nm s) := by
  obtain ⟨hx, hb, hml, hown, hts, htr, htab, hd1, hfr, hlo, hRc, hRs, hy, hG⟩ := C
  intro z hz
  obtain ⟨q, hq, rfl⟩ := List.mem_map.mp hz
  obtain ⟨h1, h2⟩ := dp_hho_spec hy (hin q hq)
  obtain ⟨w1, w2, w3⟩ := dp_hword hts h1
  rcases h q hq with h9 | h9
  · left
    simp only [covers, Bool.and_eq_false_iff, decide_eq_false_iff_not]
    by_cases h8 : q.1 ≤ pc
    · exact Or.inr (fun h7 => h9 ⟨h8, h7⟩)
    · exact Or.inl h8
  · right
    refine ⟨w3, dp_exn (dp_hk q.2.2.2), ?_, dp_nc_of hG.2.2.2.2.2.2.2.1 hk w2 (fun z => h9 z.symm)⟩
    rw [h2]
    exact w1
theorem dp_hdl_ok (C : dp_Cx p l R s m args c g X b A y d) (hX : dp_Ex p l e R s m args below meth c Qm g b A y n0 ad0 Q) {k pc n cc q : Nat} {L : dp_L} {M : dp_M} {o : Int64} {ad : Nat → Nat} {H : Heap} {locs : List Loc} {ls : Array Slot} {st : List Value} {ce : Cell} {q9 : Addr}
    (h0 : n0 ≤ n ∧ n < 1000) (h1 : ∀ k, k < n0 → ad k = ad0 k) (h2 : ad 1000 = b) (h3 : dp_LH ls (dp_mL y) ad L) (h4 : va_P g.1 vwCl (dp_wl g ad n M o) H) (h5 : va_D A (dp_wl g ad n M o)) (h6 : va_S A s.heap H locs)
    (hk : k ≤ 2) (hcell : H[q9]? = some ce) (hv : ce.vm = .none) (hcl : s.vm.findClass (dp_exn k) = some ce.cls)
    (h : dp_hdl y Q (dp_KW p l e R s m args below meth c Qm g b A (dp_mL y) n0 ad0) k pc L n cc q M o) : vx_W p l e R s m args below meth c H locs cc q Qm (F0 m pc ls st) q9 := by
  unfold dp_hdl at h
  cases hf : dp_hf (dp_hh y) pc k with
  | none =>
    rw [hf] at h
    exact hX k pc n cc q M o ad H locs ls st ce q9 h0.1 h1 h4 h5 h6 hf hk hcell hv hcl h.2.1 h.2.2 h.1
  | some hp =>
    rw [hf] at h
    obtain ⟨pre, x, suf, e1, e2, e3, e4, e5⟩ := dp_hf_some _ _ _ _ hf
    have C' := C
    obtain ⟨hx, hb, hml, hown, hts, htr, htab, hd1, hfr, hlo, hRc, hRs, hy, hG⟩ := C
    have hxin : x ∈ dp_hh y := by rw [e1]; exact List.mem_append_right _ List.mem_cons_self
    obtain ⟨g1, g2⟩ := dp_hho_spec hy hxin
    obtain ⟨w1, w2, w3⟩ := dp_hword hts g1
    refine vx_catch (own := dp_o (dp_ow y)) (name := dp_exn (dp_hk x.2.2.2)) (E := dp_exn k) (ce := ce) hown (tableOf pre) ⟨x.1, x.2.1, x.2.2.1, x.2.2.2⟩ (tableOf suf) ?_ ?_ ?_ w3 (by rw [g2]; exact w1) ?_ hcell hv hcl ?_
    · rw [htab, e1]
      unfold tableOf
      rw [List.map_append]
      rfl
    · exact dp_hpass C' hk (fun z hz => by rw [e1]; exact List.mem_append_left _ hz) e5
    · simp only [covers, Bool.and_eq_true, decide_eq_true_eq]
      exact e3
    · rw [e4]
      have hbw := hG.2.2.2.2.2.2.1
      rcases (by omega : k = 0 ∨ k = 1 ∨ k = 2) with rfl | rfl | rfl
      · exact va_Nw.use rfl (hbw _ (by simp [dp_bw]))
      · exact va_Nw.use rfl (hbw _ (by simp [dp_bw]))
      · exact va_Nw.use rfl (hbw _ (by simp [dp_bw]))
    · show W p l e R s m args below meth c H locs cc q Qm (F0 m x.2.2.1 ls [.ref q9])
      rw [e2]
      have hne : ∀ j, j < n → (fun k => if k = 9999 then q9 else ad k) j = ad j := fun j hj => if_neg (by have := h0.2; omega)
      have hw : dp_wl g (fun k => if k = 9999 then q9 else ad k) n M o = dp_wl g ad n M o := by
        unfold dp_wl
        apply List.map_congr_left
        intro j hj
        rw [dp_cel_ad (ad := ad) (fun k hk => if_neg (by omega))]
        rw [hne j (List.mem_range.mp hj)]
      have := h h0 (fun k => if k = 9999 then q9 else ad k) H locs ls (fun k hk => by rw [← h1 k hk]; exact if_neg (by have := h0.1; have := h0.2; omega)) (by rw [← h2]; rfl) ⟨h3.1, h3.2.1, fun i v hi => by rw [dp_none_gt] at hi; cases hi⟩ (by rw [hw]; exact h4) (by rw [hw]; exact h5) h6
      exact this
theorem dp_ran {n cc q mc ms pc : Nat} {ad : Nat → Nat} {Q' : dp_Q} {a : Array Value} {H : Heap} {locs : List Loc} {ls : Array Slot} {st0 rest : List Value}
    (hr : vx_Run p l e R s m args below meth c H locs cc q mc ms (F0 m pc ls st0) rest (dp_Qc g A ad n Q' a) (dp_XC g A ad n Q') A) (hS : va_S A s.heap H locs)
    (kk : ∀ (v : Option Value) (M : dp_M) (o : Int64) (H1 : Heap) (locs1 : List Loc), (∀ ad' : Nat → Nat, v.map (dp_cv ad') = v) → Q' (.inl v) M o → va_P g.1 vwCl (dp_wl g ad n M o) H1 → va_D A (dp_wl g ad n M o) → va_S A s.heap H1 locs1 → W p l e R s m args below meth c H1 locs1 (cc + mc) (q + ms) Qm (F0 m (pc + 3) ls (v.toList ++ rest)))
    (kx : ∀ (k : Nat) (M : dp_M) (o : Int64) (ce : Cell) (q9 : Addr) (H1 : Heap) (locs1 : List Loc), k ≤ 2 → Q' (.inr k) M o → va_P g.1 vwCl (dp_wl g ad n M o) H1 → va_D A (dp_wl g ad n M o) → va_S A s.heap H1 locs1 → H1[q9]? = some ce → ce.vm = .none → s.vm.findClass (dp_exn k) = some ce.cls → vx_W p l e R s m args below meth c H1 locs1 (cc + mc) (q + ms) Qm (F0 m pc ls rest) q9) :
    W p l e R s m args below meth c H locs cc q Qm (F0 m pc ls st0) := by
  intro T hT X'
  rcases hr T hT X' with ⟨v, st₀, t, T', L, h0, X', hL, e1, e2, ⟨⟨v', M, o, hv, hnr, hq, hp, hd⟩, hF⟩, st⟩ | ⟨q9, st₀, t, T', L, E, ce, h0, X', hL, e1, e2, ⟨⟨k, M, o, hE, hk, hq, hp, hd⟩, hF⟩, hce, hcv, hcl, st⟩
  · cases hv
    obtain ⟨k1, k2, k3⟩ := vx_keep h0 e1 hS (fun _ _ h => h) (fun _ h => h) hL hF
    obtain ⟨t2, a1, b1⟩ := kk v M o T'.heap (locs ++ L) hnr hq (by rw [e1]; exact hp) hd k3 T' rfl X'
    exact ⟨t2, st t2 a1, b1⟩
  · obtain ⟨k1, k2, k3⟩ := vx_keep h0 e1 hS (fun _ _ h => h) (fun _ h => h) hL hF
    obtain ⟨t2, a1, b1⟩ := kx k M o ce q9 T'.heap (locs ++ L) hk hq (by rw [e1]; exact hp) hd k3 (by rw [e1]; exact hce) hcv (by rw [← hE]; exact hcl) T' rfl X'
    exact ⟨t2, st.trans a1, b1⟩
theorem dp_iv_of {o i : Nat} {f : Option (Nat × Nat × Nat × Nat × Bool × Nat × Nat) → Prop} (hn : ¬ f none) (h : f (dp_iv o i)) : ∃ z, (o, i, z) ∈ dp_ml ∧ z < 146 ∧ f (some (z, dp_na z, dp_mc z, dp_ms z, dp_sta z, dp_ow z, dp_mL z)) := by
  unfold dp_iv at h
  cases hz : dp_lo dp_ml o i with
  | none => rw [hz] at h; exact absurd h hn
  | some z =>
    rw [hz] at h
    exact ⟨z, dp_lo_in _ _ _ _ hz, dp_ml_lt _ (dp_lo_in _ _ _ _ hz), h⟩
theorem dp_cl5 {M : dp_M} {h ci : Nat} {fs : List Value} (hq : dp_obj M h = some (ci, fs)) : ∃ q, vwCl[ci]? = some q ∧ q.1 = dp_o ci := by
  rcases dp_isA_or h with hA | rfl | rfl | rfl | rfl | rfl | rfl | rfl | rfl | rfl | rfl
  · rw [dp_obj_A hA] at hq; cases hq
  all_goals first | (cases hq; exact ⟨_, rfl, rfl⟩) | cases hq
theorem dp_blind {ad : Nat → Nat} {n : Nat} {M : dp_M} {o : Int64} {av : List Value} : FrameBlind (va_Pc av (dp_Pc g X b A ad n M o)) := fun a U f mk h => ⟨h.1, h.2.1.call, h.2.2.1, h.2.2.2⟩
theorem dp_codeE {z : Nat} (h : (dp_hh z).isEmpty = true) : dp_codeW z = .code (dp_nm z) (dp_by z) (dp_mL z) (dp_rt z) := by
  unfold dp_codeW
  rw [h]
  rfl
theorem dp_codeH {z : Nat} (h : (dp_hh z).isEmpty = false) : dp_codeW z = .codeWith (dp_nm z) (dp_by z) (dp_mL z) (dp_rt z) (dp_hh z) := by
  unfold dp_codeW
  rw [h]
  rfl
theorem dp_goodz {z : Nat} (hz : z < 146) : GoodIn dp_wd (dp_codeW z :: dp_wd) := fun w hw => by
  rcases List.mem_cons.mp hw with rfl | hw
  · exact ⟨dp_wd_code hz, (dp_wd_good _ (dp_wd_code hz)).2⟩
  · exact ⟨hw, (dp_wd_good _ hw).2⟩
theorem dp_rmle {d' d z : Nat} (hd : d = d' + 1) (hfr : d ≤ R.frames) (hlo : 28 * d + 60 ≤ R.locals) (hm : dp_mL z ≤ 9) : (dp_rm z d').frames + 1 ≤ R.frames ∧ 8 + (dp_mL z + 11) + (dp_rm z d').locals ≤ R.locals := by
  subst hd
  refine ⟨hfr, ?_⟩
  show 8 + (dp_mL z + 11) + (28 * d' + 60) ≤ R.locals
  omega
/-- a call of a method, static or not -/
theorem dp_inv_ok {call : dp_C} {d' : Nat} (C : dp_Cx p l R s m args c g X b A y d) (hdd : d = d' + 1) (hX : dp_Ex p l e R s m args below meth c Qm g b A y n0 ad0 Q) (hC : ∀ z as n M o Q', z < 146 → call z as n M o Q' → dp_Mt l g X b A d' z as n M o Q')
    {i pc n cc q : Nat} {L : dp_L} {st : List Value} {M : dp_M} {o : Int64} {sb : Bool} (hdec : decode (dp_by y) pc = .ok (if sb then .invokestatic i else .invokevirtual i, 3)) 
    (h : dp_inv call y Q (dp_KW p l e R s m args below meth c Qm g b A (dp_mL y) n0 ad0) pc L st n cc q M o sb (dp_iv (dp_ow y) i)) : dp_KW p l e R s m args below meth c Qm g b A (dp_mL y) n0 ad0 pc L st n cc q M o := by
  intro h0 ad H locs ls h1 h2 h3 h4 h5 h6
  obtain ⟨z, hmem, hz, h⟩ := dp_iv_of (f := fun z => dp_inv call y Q (dp_KW p l e R s m args below meth c Qm g b A (dp_mL y) n0 ad0) pc L st n cc q M o sb z) (fun h => h) h
  obtain ⟨t, r, ht, rfl, hsta, h65, hasz, hrl, hmc, hms, hrcv, hcall⟩ := dp_take_of _ _ _ _ h
  rw [List.append_nil] at hrcv hcall hasz
  have C' := C
  obtain ⟨hx, hb, hml, hown, hts, htr, htab, hd1, hfr, hlo, hRc, hRs, hy, hG⟩ := C
  obtain ⟨z1, z2, z3, z4, z5, z6, z7, z8⟩ := dp_zok_spec (z := z) (by omega)
  have hM := hC z _ n M o _ hz hcall h65 h0.2 hasz ad h2
  have hPre : ∀ U : State, U.heap = H → s.WarmedH U.vm → dp_Pc g X b A ad n M o U := fun U hU hW => ⟨hG.go hW hU h6, by rw [hU]; exact h4, h5⟩
  have hlink : (Cond.methodLink (dp_o (dp_ow y)) i (dp_nm z)).before args s = true := hts _ (dp_wd_link hmem)
  have hini : (Cond.initialized (dp_nm z).cls).before args s = true := by rw [z4]; exact hts _ (dp_wd_init z7)
  have hkind := hts _ (dp_wd_kind hz)
  have hrs : ((r.map (dp_cv ad)).map fun v => v.category).sum ≤ 8 := Nat.le_trans (dp_sum_le ad r) (by omega)
  have hsum : cc + dp_mc z ≤ R.cells ∧ q + dp_ms z ≤ R.slots := by rw [hRc, hRs]; exact ⟨hmc, hms⟩
  have hstk : (t ++ r).map (dp_cv ad) = ((t.reverse).map (dp_cv ad)).reverse ++ r.map (dp_cv ad) := by rw [List.map_append, ← List.map_reverse, List.reverse_reverse]
  have fin : ∀ {a : Array Value}, vx_Run p l e R s m args below meth c H locs cc q (dp_mc z) (dp_ms z) (F0 m pc ls ((t ++ r).map (dp_cv ad))) (r.map (dp_cv ad)) (dp_Qc g A ad n (dp_aft y Q (dp_KW p l e R s m args below meth c Qm g b A (dp_mL y) n0 ad0) pc L r n (cc + dp_mc z) (q + dp_ms z)) a) (dp_XC g A ad n (dp_aft y Q (dp_KW p l e R s m args below meth c Qm g b A (dp_mL y) n0 ad0) pc L r n (cc + dp_mc z) (q + dp_ms z))) A →
      W p l e R s m args below meth c H locs cc q Qm (F0 m pc ls ((t ++ r).map (dp_cv ad))) := fun hr => dp_ran hr h6
    (fun v M1 o1 H1 locs1 hnr hq hp hd hS => by
      cases v with
      | none => exact hq h0 ad H1 locs1 ls h1 h2 h3 hp hd hS
      | some v =>
        have := hq h0 ad H1 locs1 ls h1 h2 h3 hp hd hS
        rw [List.map_cons, show dp_cv ad v = v from Option.some.inj (hnr ad)] at this
        exact this)
    (fun k M1 o1 ce q9 H1 locs1 hk hq hp hd hS hce hcv hcl => dp_hdl_ok C' hX h0 h1 h2 h3 hp hd hS hk hce hcv hcl hq)
  by_cases hsb : sb = true
  · subst hsb
    have hst : dp_sta z = true := hsta
    have hstat : (Cond.static (dp_nm z)).before args s = true := by
      unfold dp_kindW at hkind
      rw [hst] at hkind
      exact hkind
    have hlen : t.reverse.length = dp_na z := by rw [List.length_reverse, ht]
    rw [hst] at z5
    cases he : (dp_hh z).isEmpty with
    | true =>
      refine fin (vx_runS (nL := dp_mL y) (As := (t.reverse).map (dp_cv ad)) (Ts := dp_wd) (n := dp_na z) (g := F0 m pc ls ((t ++ r).map (dp_cv ad))) ⟨hx, hb, hml, hown, hts⟩ hM ⟨callB_of (ws' := dp_wd) (bytes := dp_by z) (maxL := dp_mL z) (ret := dp_rt z) (dp_na z) hts (dp_goodz hz) (by rw [dp_codeE he]) rfl rfl hini hlink ⟨z1, z2, z5⟩ (dp_rmle hdd hfr hlo z6), hstat⟩ ⟨dp_blind, fun U hU hW => ⟨rfl, hPre U hU hW⟩⟩ rfl (by rw [List.length_map, hlen]) (h3.1) hstk (lv_room hrs) hdec hsum)
    | false =>
      have hG2 : GoodIn dp_wd (va_wsS (dp_o (dp_ow y)) i (dp_nm z) (dp_codeW z :: dp_wd)) := fun w hw => by
        unfold va_wsS at hw
        rcases List.mem_append.mp hw with hw | hw
        · simp only [List.mem_cons, List.not_mem_nil, or_false] at hw
          rcases hw with rfl | rfl | rfl
          · exact ⟨dp_wd_link hmem, (dp_wd_good _ (dp_wd_link hmem)).2⟩
          · have h9 := dp_wd_kind hz
            unfold dp_kindW at h9
            rw [hst] at h9
            exact ⟨h9, (dp_wd_good _ h9).2⟩
          · rw [z4]
            exact ⟨dp_wd_init z7, (dp_wd_good _ (dp_wd_init z7)).2⟩
        · exact dp_goodz hz w hw
      refine fin (vx_runSX (nL := dp_mL y) (As := (t.reverse).map (dp_cv ad)) (Ts := dp_wd) (n := dp_na z) (g := F0 m pc ls ((t ++ r).map (dp_cv ad))) ⟨hx, hb, hml, hown, hts⟩ hM (vx_cwSW (ws' := dp_wd) (dp_na z) hts hG2 (by rw [dp_codeH he]) rfl rfl ⟨z1, z2, z5⟩ (dp_rmle hdd hfr hlo z6)) ⟨dp_blind, fun U hU hW => ⟨rfl, hPre U hU hW⟩⟩ rfl (by rw [List.length_map, hlen]) (h3.1) hstk (lv_room hrs) hdec hsum)
  · have hsb : sb = false := by simpa using hsb
    subst hsb
    have hst : dp_sta z = false := hsta
    rcases z8 with z8 | ⟨z8, z9, z10⟩
    · rw [hst] at z8; cases z8
    rcases hrcv with hrcv | hrcv
    · cases hrcv
    obtain ⟨hh, as', fs, hrev, hhn, hobj⟩ : ∃ hh as' fs, t.reverse = .ref hh :: as' ∧ hh < n ∧ dp_obj M hh = some (dp_ow z, fs) := by
      unfold dp_rcv at hrcv
      split at hrcv
      · rename_i hh as' hr
        obtain ⟨q1, q2⟩ := hrcv
        split at q2
        · rename_i q hq
          exact ⟨hh, as', q.2, hr, q1, by rw [hq, ← q2]⟩
        · exact q2.elim
      · exact hrcv.elim
    obtain ⟨qc, hqc, hqn⟩ := dp_cl5 hobj
    have hcell := va_recv (q := qc) hG.1 h4 hqc (by rw [dp_wl_at hhn, dp_cel_O hobj])
    rw [hqn, ← z4] at hcell
    have hrev2 : t = as'.reverse ++ [.ref hh] := by rw [← List.reverse_reverse t, hrev, List.reverse_cons]
    have hstk2 : (t ++ r).map (dp_cv ad) = (as'.map (dp_cv ad)).reverse ++ .ref (ad hh) :: r.map (dp_cv ad) := by
      rw [hrev2, List.append_assoc, List.map_append, ← List.map_reverse]
      rfl
    have hlen : (as'.map (dp_cv ad)).length = dp_na z - 1 := by
      have : t.reverse.length = dp_na z := by rw [List.length_reverse, ht]
      rw [hrev, List.length_cons] at this
      rw [List.length_map]
      omega
    rw [hst] at z5
    rw [hrev] at hM
    have hinst : (Cond.instanceMethod (dp_nm z)).before args s = true := by
      unfold dp_kindW at hkind
      rw [hst] at hkind
      exact hkind
    exact fin (vx_runV (nL := dp_mL y) (C := (dp_nm z).cls) (b := ad hh) (As := as'.map (dp_cv ad)) (Ts := dp_wd) (n := dp_na z - 1) (g := F0 m pc ls ((t ++ r).map (dp_cv ad))) ⟨hx, hb, hml, hown, hts⟩ hM ⟨callB_of (ws' := dp_wd) (bytes := dp_by z) (maxL := dp_mL z) (ret := dp_rt z) (dp_na z - 1) hts (dp_goodz hz) (by rw [dp_codeE z9]) rfl rfl hini hlink ⟨z1, z2, z5⟩ (dp_rmle hdd hfr hlo z6), hinst, hts _ (dp_wd_sel z8)⟩ ⟨dp_blind, hcell, fun U hU hW => ⟨rfl, hPre U hU hW⟩⟩ rfl hlen (h3.1) hstk2 (lv_room hrs) hdec hsum)
end DPC
