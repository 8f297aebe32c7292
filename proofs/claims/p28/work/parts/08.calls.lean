/-! Calls and throws in the deep semantics, over the machine. -/
theorem dp_take_of : ∀ (k : Nat) (st acc : List Value) (f : List Value → List Value → Prop), dp_take k st acc f → ∃ t r, t.length = k ∧ st = t ++ r ∧ f (t.reverse ++ acc) r
  | 0, st, acc, f, h => ⟨[], st, rfl, rfl, h⟩
  | k + 1, [], acc, f, h => h.elim
  | k + 1, v :: st, acc, f, h => by
    obtain ⟨t, r, h1, h2, h3⟩ := dp_take_of k st (v :: acc) f h
    refine ⟨v :: t, r, by rw [List.length_cons, h1], by rw [h2]; rfl, ?_⟩
    rw [List.reverse_cons, List.append_assoc]
    exact h3
theorem dp_vid_cls : ∀ z, z < 77 → (z ∈ dp_vids ∨ z = 59 ∨ z = 60) → dp_ow z < 6 := by decide +kernel
section DPC
variable {p : Program} {l : Launch} {e : Env} {R : Room} {s : State} {m : MethodId} {args : Array Value} {below : List Frame} {meth : Method} {c : Code} {Qm : State → Prop}
variable {g : dp_G} {X : dp_X} {b : Nat} {A : Nat → Prop} {y d : Nat} {ad : Nat → Nat} {Q : dp_Q}
theorem dp_ran {cc q mc ms pc : Nat} {Q' : dp_Q} {a : Array Value} {H : Heap} {locs : List Loc} {ls : Array Slot} {st0 rest : List Value}
    (hr : vx_Run p l e R s m args below meth c H locs cc q mc ms (F0 m pc ls st0) rest (dp_Qc g A ad Q' a) (dp_XC g A ad Q') A) (hS : va_S A s.heap H locs)
    (kk : ∀ (v : Option Value) (M : dp_M) (o : dp_O) (ds : dp_D) (H1 : Heap) (locs1 : List Loc), Q' (.inl v) M o → dp_rep o ds → va_P g.1 vwCl (dp_ww g ad M ds) H1 → va_D A (dp_ww g ad M ds) → va_S A s.heap H1 locs1 → W p l e R s m args below meth c H1 locs1 (cc + mc) (q + ms) Qm (F0 m (pc + 3) ls ((v.map (dp_cv ad)).toList ++ rest)))
    (kx : ∀ (k : Nat) (M : dp_M) (o : dp_O) (ds : dp_D) (ce : Cell) (q9 : Addr) (H1 : Heap) (locs1 : List Loc), k ≤ 2 → Q' (.inr k) M o → dp_rep o ds → va_P g.1 vwCl (dp_ww g ad M ds) H1 → va_D A (dp_ww g ad M ds) → va_S A s.heap H1 locs1 → H1[q9]? = some ce → ce.vm = .none → s.vm.findClass (dp_exn k) = some ce.cls → vx_W p l e R s m args below meth c H1 locs1 (cc + mc) (q + ms) Qm (F0 m pc ls rest) q9) :
    W p l e R s m args below meth c H locs cc q Qm (F0 m pc ls st0) := by
  intro T hT X'
  rcases hr T hT X' with ⟨v, st₀, t, T', L, h0, X', hL, e1, e2, ⟨⟨v', M, o, hv, hq, ds, hrep, hp, hd⟩, hF⟩, st⟩ | ⟨q9, st₀, t, T', L, E, ce, h0, X', hL, e1, e2, ⟨⟨k, M, o, hE, hk, hq, ds, hrep, hp, hd⟩, hF⟩, hce, hcv, hcl, st⟩
  · cases hv
    obtain ⟨k1, k2, k3⟩ := vx_keep h0 e1 hS (fun _ _ h => h) (fun _ h => h) hL hF
    obtain ⟨t2, a1, b1⟩ := kk v' M o ds T'.heap (locs ++ L) hq hrep (by rw [e1]; exact hp) hd k3 T' rfl X'
    exact ⟨t2, st t2 a1, b1⟩
  · obtain ⟨k1, k2, k3⟩ := vx_keep h0 e1 hS (fun _ _ h => h) (fun _ h => h) hL hF
    obtain ⟨t2, a1, b1⟩ := kx k M o ds ce q9 T'.heap (locs ++ L) hk hq hrep (by rw [e1]; exact hp) hd k3 (by rw [e1]; exact hce) hcv (by rw [← hE]; exact hcl) T' rfl X'
    exact ⟨t2, st.trans a1, b1⟩
theorem dp_iv_of {o i : Nat} {f : Option (Nat × Nat × Nat × Nat × Bool × Nat × Nat) → Prop} (hn : ¬ f none) (h : f (dp_iv o i)) : ∃ z, (o, i, z) ∈ dp_ml ∧ z < 77 ∧ f (some (z, dp_na z, dp_mc z, dp_ms z, dp_sta z, dp_ow z, dp_mL z)) := by
  unfold dp_iv at h
  cases hz : dp_lo dp_ml o i with
  | none => rw [hz] at h; exact absurd h hn
  | some z =>
    rw [hz] at h
    exact ⟨z, dp_lo_in _ _ _ _ hz, dp_ml_lt _ (dp_lo_in _ _ _ _ hz), h⟩
theorem dp_cl5 {ci : Nat} (h : ci < 6) : ∃ q, vwCl[ci]? = some q ∧ q.1 = dp_o ci := by
  rcases (by omega : ci = 0 ∨ ci = 1 ∨ ci = 2 ∨ ci = 3 ∨ ci = 4 ∨ ci = 5) with rfl | rfl | rfl | rfl | rfl | rfl <;> exact ⟨_, rfl, rfl⟩
/-- the receiver's cell -/
theorem dp_rcv_of {M : dp_M} {o : dp_O} {ds : dp_D} {as : List Value} {w : Nat} (hr : dp_rep o ds) (had : dp_adk ad b) (h : dp_rcv 65 M o as w) : ∃ (hh : Nat) (as' fs : List Value) (k : Nat), as = .ref hh :: as' ∧ (dp_ww g ad M ds)[k]? = some (ad hh, .inr (w, fs)) := by
  unfold dp_rcv at h
  split at h
  · rename_i hh as'
    rcases h with ⟨h1, h2⟩ | ⟨fs, h1⟩
    · cases hq : dp_obj M hh with
      | some q =>
        rw [hq] at h2
        have h2 : q.1 = w := h2
        refine ⟨hh, as', q.2.map (dp_cv ad), dp_pos hh, rfl, ?_⟩
        rw [dp_wl_at h1 (dp_obj_k hq), dp_cel_O hq, h2]
      | none =>
        rw [hq] at h2
        exact h2.elim
    · obtain ⟨-, k, -, hk⟩ := dp_dyn (g := g) (M := M) hr had h1
      exact ⟨hh, as', fs.map (dp_cv ad), 60 + k, rfl, hk⟩
  · exact h.elim
theorem dp_blind {M : dp_M} {o : dp_O} {av : List Value} : FrameBlind (va_Pc av (dp_Pc g X b A ad M o)) := fun a U f mk h => ⟨h.1, h.2.1.call, h.2.2⟩
theorem dp_codeE {z : Nat} (h : (dp_hh z).isEmpty = true) : dp_codeW z = .code (dp_nm z) (dp_by z) (dp_mL z) (dp_rt z) := by
  unfold dp_codeW
  rw [h]
  rfl
theorem dp_goodz {z : Nat} (hz : z < 77) : GoodIn dp_wd (dp_codeW z :: dp_wd) := fun w hw => by
  rcases List.mem_cons.mp hw with rfl | hw
  · exact ⟨dp_wd_code hz, (dp_wd_good _ (dp_wd_code hz)).2⟩
  · exact ⟨hw, (dp_wd_good _ hw).2⟩
theorem dp_rmle {d' d z : Nat} (hd : d = d' + 1) (hfr : d ≤ R.frames) (hlo : 30 * d + 60 + dp_xl y ≤ R.locals) (hm : dp_mL z + dp_xl z ≤ 11 + dp_xl y) : (dp_rm z d').frames + 1 ≤ R.frames ∧ 8 + (dp_mL z + 11) + (dp_rm z d').locals ≤ R.locals := by
  subst hd
  refine ⟨hfr, ?_⟩
  show 8 + (dp_mL z + 11) + (30 * d' + 60 + dp_xl z) ≤ R.locals
  omega
/-- what follows a call -/
theorem dp_fin {z pc cc q n : Nat} {L : dp_L} {r st : List Value} {a : Array Value} {ls : Array Slot} {H : Heap} {locs : List Loc} (hX : dp_Ex p l e R s m args below meth c Qm g A y ad Q) (h0 : n = 65) (h3 : dp_LH ls (dp_mL y) ad L) (h6 : va_S A s.heap H locs)
    (hr : vx_Run p l e R s m args below meth c H locs cc q (dp_mc z) (dp_ms z) (F0 m pc ls st) (r.map (dp_cv ad)) (dp_Qc g A ad (dp_aft y Q (dp_KW p l e R s m args below meth c Qm g A (dp_mL y) ad) pc L r n (cc + dp_mc z) (q + dp_ms z)) a) (dp_XC g A ad (dp_aft y Q (dp_KW p l e R s m args below meth c Qm g A (dp_mL y) ad) pc L r n (cc + dp_mc z) (q + dp_ms z))) A) :
    W p l e R s m args below meth c H locs cc q Qm (F0 m pc ls st) := dp_ran hr h6
    (fun v M1 o1 ds1 H1 locs1 hq hrep hp hd hS => by
      cases v with
      | none => exact hq h0 ds1 H1 locs1 ls hrep h3 hp hd hS
      | some v => exact hq h0 ds1 H1 locs1 ls hrep h3 hp hd hS)
    (fun k M1 o1 ds1 ce q9 H1 locs1 hk hq hrep hp hd hS hce hcv hcl => by
      obtain ⟨q1, q2, q3⟩ := hq
      exact hX k pc _ _ M1 o1 ds1 H1 locs1 ls _ ce q9 hrep hp hd hS hk hce hcv hcl q2 q3 q1)
/-- a call of a method, static or not -/
theorem dp_inv_ok {call : dp_C} {d' : Nat} (C : dp_Cx p l R s m args c g X b A y d) (had : dp_adk ad b) (hdd : d = d' + 1) (hX : dp_Ex p l e R s m args below meth c Qm g A y ad Q) (hC : ∀ z as n M o Q', z < 77 → call z as n M o Q' → dp_Mt l g X b A d' z as n M o Q')
    {i pc n cc q : Nat} {L : dp_L} {st : List Value} {M : dp_M} {o : dp_O} {sb : Bool} (hdec : decode (dp_by y) pc = .ok (if sb then .invokestatic i else .invokevirtual i, 3)) 
    (h : dp_inv call y Q (dp_KW p l e R s m args below meth c Qm g A (dp_mL y) ad) pc L st n cc q M o sb (dp_iv (dp_ow y) i)) : dp_KW p l e R s m args below meth c Qm g A (dp_mL y) ad pc L st n cc q M o := by
  intro h0 ds H locs ls h1 h3 h4 h5 h6
  obtain ⟨z, hmem, hz, h⟩ := dp_iv_of (f := fun z => dp_inv call y Q (dp_KW p l e R s m args below meth c Qm g A (dp_mL y) ad) pc L st n cc q M o sb z) (fun h => h) h
  obtain ⟨t, r, ht, rfl, hsta, h65, hasz, hxl, hrl, hmc, hms, hrcv, hcall⟩ := dp_take_of _ _ _ _ h
  rw [List.append_nil] at hrcv hcall hasz
  obtain ⟨hx, hb, hml, hown, hts, htr, htab, hd1, hfr, hlo, hRc, hRs, hy, hG⟩ := C
  obtain ⟨z1, z2, z3, z4, z5, z6, z7, z8⟩ := dp_zok_spec (z := z) (by omega)
  have hM := hC z _ n M o _ hz hcall h0 hasz ad had
  have hPre : ∀ U : State, U.heap = H → s.WarmedH U.vm → dp_Pc g X b A ad M o U := fun U hU hW => ⟨hG.go hW hU h6, ds, h1, by rw [hU]; exact h4, h5⟩
  have hlink : (Cond.methodLink (dp_o (dp_ow y)) i (dp_nm z)).before args s = true := hts _ (dp_wd_link hmem)
  have hini : (Cond.initialized (dp_nm z).cls).before args s = true := by rw [z4]; exact hts _ (dp_wd_init z7)
  have hkind := hts _ (dp_wd_kind hz)
  have hrs : ((r.map (dp_cv ad)).map fun v => v.category).sum ≤ 8 := Nat.le_trans (dp_sum_le ad r) (by omega)
  have hsum : cc + dp_mc z ≤ R.cells ∧ q + dp_ms z ≤ R.slots := by rw [hRc, hRs]; exact ⟨hmc, hms⟩
  have hstk : (t ++ r).map (dp_cv ad) = ((t.reverse).map (dp_cv ad)).reverse ++ r.map (dp_cv ad) := by rw [List.map_append, ← List.map_reverse, List.reverse_reverse]
  by_cases hsb : sb = true
  · subst hsb
    have hst : dp_sta z = true := hsta
    have hstat : (Cond.static (dp_nm z)).before args s = true := by
      unfold dp_kindW at hkind
      rw [hst] at hkind
      exact hkind
    have hlen : t.reverse.length = dp_na z := by rw [List.length_reverse, ht]
    rw [hst] at z5
    exact dp_fin hX h0 h3 h6 (vx_runS (nL := dp_mL y) (As := (t.reverse).map (dp_cv ad)) (Ts := dp_wd) (n := dp_na z) (g := F0 m pc ls ((t ++ r).map (dp_cv ad))) ⟨hx, hb, hml, hown, hts⟩ hM ⟨callB_of (ws' := dp_wd) (bytes := dp_by z) (maxL := dp_mL z) (ret := dp_rt z) (dp_na z) hts (dp_goodz hz) (by rw [dp_codeE z6]) rfl rfl hini hlink ⟨z1, z2, z5⟩ (dp_rmle hdd hfr hlo hxl), hstat⟩ ⟨dp_blind, fun U hU hW => ⟨rfl, hPre U hU hW⟩⟩ rfl (by rw [List.length_map, hlen]) (h3.1) hstk (lv_room hrs) hdec hsum)
  · have hsb : sb = false := by simpa using hsb
    subst hsb
    have hst : dp_sta z = false := hsta
    rcases z8 with z8 | ⟨z9, z10⟩
    · rw [hst] at z8; cases z8
    rcases hrcv with hrcv | hrcv
    · cases hrcv
    obtain ⟨hrcv, hnin⟩ := hrcv
    rw [h0] at hrcv
    obtain ⟨hh, as', fs, kq, hrev, hcl⟩ := dp_rcv_of (g := g) h1 had hrcv
    obtain ⟨qc, hqc, hqn⟩ := dp_cl5 (dp_vid_cls z hz z9)
    have hcell := va_recv (q := qc) hG.1 h4 hqc hcl
    rw [hqn, ← z4] at hcell
    have hrev2 : t = as'.reverse ++ [.ref hh] := by rw [← List.reverse_reverse t, hrev, List.reverse_cons]
    have hstk2 : (t ++ r).map (dp_cv ad) = (as'.map (dp_cv ad)).reverse ++ .ref (ad hh) :: r.map (dp_cv ad) := by
      rw [hrev2, List.append_assoc, List.map_append, ← List.map_reverse]
      rfl
    have hlen : (as'.map (dp_cv ad)).length = dp_na z - 1 := by
      have : t.reverse.length = dp_na z := by rw [List.length_reverse, ht]
      rw [hrev, List.length_cons] at this
      rw [List.length_map]
      omega
    rw [hst] at z5
    rw [hrev] at hM
    have hinst : (Cond.instanceMethod (dp_nm z)).before args s = true := by
      unfold dp_kindW at hkind
      rw [hst] at hkind
      exact hkind
    have hvid : z ∈ dp_vids := by
      rcases z9 with z9 | rfl | rfl
      · exact z9
      · cases hnin
      · cases hnin
    exact dp_fin hX h0 h3 h6 (vx_runV (nL := dp_mL y) (C := (dp_nm z).cls) (b := ad hh) (As := as'.map (dp_cv ad)) (Ts := dp_wd) (n := dp_na z - 1) (g := F0 m pc ls ((t ++ r).map (dp_cv ad))) ⟨hx, hb, hml, hown, hts⟩ hM ⟨callB_of (ws' := dp_wd) (bytes := dp_by z) (maxL := dp_mL z) (ret := dp_rt z) (dp_na z - 1) hts (dp_goodz hz) (by rw [dp_codeE z6]) rfl rfl hini hlink ⟨z1, z2, z5⟩ (dp_rmle hdd hfr hlo hxl), hinst, hts _ (dp_wd_sel hvid)⟩ ⟨dp_blind, hcell, fun U hU hW => ⟨rfl, hPre U hU hW⟩⟩ rfl hlen (h3.1) hstk2 (lv_room hrs) hdec hsum)
/-- a constructor's call -/
theorem dp_ins_ok {call : dp_C} {d' : Nat} (C : dp_Cx p l R s m args c g X b A y d) (had : dp_adk ad b) (hdd : d = d' + 1) (hX : dp_Ex p l e R s m args below meth c Qm g A y ad Q) (hC : ∀ z as n M o Q', z < 77 → call z as n M o Q' → dp_Mt l g X b A d' z as n M o Q')
    {i pc n cc q : Nat} {L : dp_L} {st : List Value} {M : dp_M} {o : dp_O} (hdec : decode (dp_by y) pc = .ok (.invokespecial i, 3))
    (h : dp_ins call y Q (dp_KW p l e R s m args below meth c Qm g A (dp_mL y) ad) pc L st n cc q M o (dp_iv (dp_ow y) i) ∨ dp_ins call y Q (dp_KW p l e R s m args below meth c Qm g A (dp_mL y) ad) pc L st n cc q M o (dp_ivN (dp_ow y) i)) : dp_KW p l e R s m args below meth c Qm g A (dp_mL y) ad pc L st n cc q M o := by
  intro h0 ds H locs ls h1 h3 h4 h5 h6
  obtain ⟨hx, hb, hml, hown, hts, htr, htab, hd1, hfr, hlo, hRc, hRs, hy, hG⟩ := C
  have key : ∃ z, ((o, i, z) = (o, i, z) ∧ (((dp_ow y, i, z) ∈ dp_ml) ∨ (dp_ow y = 6 ∧ i = 48 ∧ z = 59))) ∧ dp_ins call y Q (dp_KW p l e R s m args below meth c Qm g A (dp_mL y) ad) pc L st n cc q M o (some (z, dp_na z, dp_mc z, dp_ms z, dp_sta z, dp_ow z, dp_mL z)) := by
    rcases h with h | h
    · obtain ⟨z, hmem, hz, h⟩ := dp_iv_of (f := fun z => dp_ins call y Q (dp_KW p l e R s m args below meth c Qm g A (dp_mL y) ad) pc L st n cc q M o z) (fun h => h) h
      exact ⟨z, ⟨rfl, Or.inl hmem⟩, h⟩
    · unfold dp_ivN at h
      by_cases hc : dp_ow y = 6 ∧ i = 48
      · rw [if_pos hc] at h
        exact ⟨59, ⟨rfl, Or.inr ⟨hc.1, hc.2, rfl⟩⟩, h⟩
      · rw [if_neg hc] at h
        exact h.elim
  obtain ⟨z, ⟨-, hlk⟩, h⟩ := key
  obtain ⟨t, r, ht, rfl, hz9, h65, hasz, hxl, hrl, hmc, hms, hrcv, hcall⟩ := dp_take_of _ _ _ _ h
  rw [List.append_nil] at hrcv hcall hasz
  have hz : z < 77 := by omega
  obtain ⟨z1, z2, z3, z4, z5, z6, z7, z8⟩ := dp_zok_spec (z := z) (by omega)
  have hM := hC z _ n M o _ hz hcall h0 hasz ad had
  have hPre : ∀ U : State, U.heap = H → s.WarmedH U.vm → dp_Pc g X b A ad M o U := fun U hU hW => ⟨hG.go hW hU h6, ds, h1, by rw [hU]; exact h4, h5⟩
  have hini : (Cond.initialized (dp_nm z).cls).before args s = true := by rw [z4]; exact hts _ (dp_wd_init z7)
  have hkind := hts _ (dp_wd_kind hz)
  have hrs : ((r.map (dp_cv ad)).map fun v => v.category).sum ≤ 8 := Nat.le_trans (dp_sum_le ad r) (by omega)
  have hsum : cc + dp_mc z ≤ R.cells ∧ q + dp_ms z ≤ R.slots := by rw [hRc, hRs]; exact ⟨hmc, hms⟩
  obtain ⟨i1, i2, i3, i4, i5, i6⟩ := dp_inits
  have hnm : (dp_nm z).name = "<init>" := by rcases hz9 with rfl | rfl <;> assumption
  have hst : dp_sta z = false := by rcases hz9 with rfl | rfl <;> assumption
  have hrt : dp_rt z = none := by rcases hz9 with rfl | rfl <;> assumption
  rw [h0] at hrcv
  obtain ⟨hh, as', fs, kq, hrev, hcl⟩ := dp_rcv_of (g := g) h1 had hrcv
  have hrev2 : t = as'.reverse ++ [.ref hh] := by rw [← List.reverse_reverse t, hrev, List.reverse_cons]
  have hstk2 : (t ++ r).map (dp_cv ad) = (as'.map (dp_cv ad)).reverse ++ .ref (ad hh) :: r.map (dp_cv ad) := by
    rw [hrev2, List.append_assoc, List.map_append, ← List.map_reverse]
    rfl
  have hna : 1 ≤ dp_na z := by
    rcases z8 with z8 | z8
    · rw [hst] at z8; cases z8
    · exact z8.2
  have hlen : (as'.map (dp_cv ad)).length = dp_na z - 1 := by
    have : t.reverse.length = dp_na z := by rw [List.length_reverse, ht]
    rw [hrev, List.length_cons] at this
    rw [List.length_map]
    omega
  rw [hst] at z5
  rw [hrev] at hM
  have hinst : (Cond.instanceMethod (dp_nm z)).before args s = true := by
    unfold dp_kindW at hkind
    rw [hst] at hkind
    exact hkind
  have hcode : dp_codeW z = .code (dp_nm z) (dp_by z) (dp_mL z) none := by rw [dp_codeE z6, hrt]
  rcases hlk with hmem | ⟨ho, rfl, rfl⟩
  · have hlink : (Cond.methodLink (dp_o (dp_ow y)) i (dp_nm z)).before args s = true := hts _ (dp_wd_link hmem)
    exact dp_fin hX h0 h3 h6 (vx_runI (nL := dp_mL y) (b := ad hh) (As := as'.map (dp_cv ad)) (Ts := dp_wd) (n := dp_na z - 1) (g := F0 m pc ls ((t ++ r).map (dp_cv ad))) ⟨hx, hb, hml, hown, hts⟩ hM ⟨callB_of (ws' := dp_wd) (bytes := dp_by z) (maxL := dp_mL z) (ret := none) (dp_na z - 1) hts (dp_goodz hz) (by rw [hcode]) rfl rfl hini hlink ⟨z1, z2, z5⟩ (dp_rmle hdd hfr hlo hxl), hnm, hinst⟩ ⟨dp_blind, fun U hU hW => ⟨rfl, hPre U hU hW⟩⟩ rfl hlen (h3.1) hstk2 (lv_room hrs) hdec hsum)
  · rw [ho] at hown
    have hnest := hG.2.2.2.2.2.2.2.2.2.2.2.2
    exact dp_fin hX h0 h3 h6 (vx_runIN (host := RL) (own := RL) (nL := dp_mL y) (b := ad hh) (As := as'.map (dp_cv ad)) (Ts := dp_wd) (n := dp_na 59 - 1) (g := F0 m pc ls ((t ++ r).map (dp_cv ad))) ⟨hx, hb, hml, hown, hts⟩ hM ⟨va_cnB (ws' := dp_wd) (bytes := dp_by 59) (maxL := dp_mL 59) (ret := none) (dp_na 59 - 1) hts (dp_goodz hz) (by rw [hcode]) rfl rfl hnest hini ⟨z1, z2, z5⟩ (dp_rmle hdd hfr hlo hxl), hnm, hinst⟩ ⟨dp_blind, fun U hU hW => ⟨rfl, hPre U hU hW⟩⟩ rfl hlen (h3.1) hstk2 (lv_room hrs) hdec hsum)
end DPC
