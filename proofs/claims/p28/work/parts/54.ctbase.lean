/-! What the constructors share: the picture of the start, new arrays of known classes, a constructor's call. -/
def ct_st (i : Nat) : Nat → Int32 := fun k => if k < i then nI (k / 2) else nI 0
def ct_fl (x : Int32) (i : Nat) : Nat → Int32 := fun k => if k < i then x else nI 0
def ct_z : Nat → Int32 := fun _ => nI 0
abbrev ct_I (g : dp_G) (n : Nat) (f : Nat → Int32) : va_E := .inl (g.2.1, n, .inl f)
abbrev ct_R (g : dp_G) (n : Nat) (r : Nat → Nat) : va_E := .inl (g.2.2.2.1, n, .inr (.inr (.inr (.inr fun i => if i < n then some (r i) else none))))
abbrev ct_rows (g : dp_G) (n k : Nat) (r : Nat → Nat) : va_W := (List.range n).map fun i => (r i, ct_I g k ct_z)
def ct_link : Cond := .methodLinkNest RX3 25 yX0_init RX3
theorem ct_st_0 : ct_st 0 = ct_z := by
  funext k
  simp [ct_st, ct_z]
theorem ct_fl_0 (x : Int32) : ct_fl x 0 = ct_z := by
  funext k
  simp [ct_fl, ct_z]
theorem ct_st_up {i : Nat} : upd (ct_st i) i (nI (i / 2)) = ct_st (i + 1) := by
  funext k
  unfold upd ct_st
  by_cases h : k = i
  · subst h
    simp
  · by_cases h2 : k < i
    · simp [h, h2, Nat.lt_succ_of_lt h2]
    · simp [h, h2, show ¬ k < i + 1 by omega]
theorem ct_fl_up {x : Int32} {i : Nat} : upd (ct_fl x i) i x = ct_fl x (i + 1) := by
  funext k
  unfold upd ct_fl
  by_cases h : k = i
  · subst h
    simp
  · by_cases h2 : k < i
    · simp [h, h2, Nat.lt_succ_of_lt h2]
    · simp [h, h2, show ¬ k < i + 1 by omega]
theorem ct_one {U : State} {c1 c2 : ClassId} (h1 : va_RA U c1 .int) (h2 : va_RA U c2 .int) : c1 = c2 := by
  have h1 : U.vm.findClass _ = some c1 := h1
  have h2 : U.vm.findClass _ = some c2 := h2
  exact Option.some.inj (h1.symm.trans h2)
theorem ct_oneA {U : State} {c1 c2 : ClassId} (h1 : va_RA U c1 (.array .int)) (h2 : va_RA U c2 (.array .int)) : c1 = c2 := by
  have h1 : U.vm.findClass _ = some c1 := h1
  have h2 : U.vm.findClass _ = some c2 := h2
  exact Option.some.inj (h1.symm.trans h2)
/-- behind a call: what the caller keeps stands ahead, the callee's part behind -/
theorem ct_join {A0 : Nat → Prop} {D : va_G} {cl : List vw_C} {wr wc w1 : va_W} {H H1 : Heap} (hP : va_P D cl (wr ++ wc) H) (hD : va_D A0 (wr ++ wc))
    (hk : ∀ q : Nat, q < H.size → ¬ va_A wc H.size q → H1[q]? = H[q]?) (hF : ∀ q, va_A wc H.size q → A0 q) (hP1 : va_P D cl w1 H1) (hD1 : va_D (va_A wc H.size) w1) : va_P D cl (wr ++ w1) H1 ∧ va_D A0 (wr ++ w1) := by
  have inl : ∀ (k : Nat) (q : Nat × va_E), wr[k]? = some q → (wr ++ wc)[k]? = some q := fun k q h => by
    rw [List.getElem?_append_left (List.getElem?_eq_some_iff.mp h).1]
    exact h
  have inr : ∀ (k : Nat) (q : Nat × va_E), wc[k]? = some q → (wr ++ wc)[wr.length + k]? = some q := fun k q h => by
    rw [List.getElem?_append_right (by omega), Nat.add_sub_cancel_left]
    exact h
  have apart : ∀ (k : Nat) (q : Nat × va_E), wr[k]? = some q → q.1 < H.size ∧ ¬ va_A wc H.size q.1 := by
    intro k q hq
    have hl := (hP k q (inl k q hq)).lt
    refine ⟨hl, fun h => ?_⟩
    rcases h with ⟨k2, e, h⟩ | h
    · have hij := hD.1 k (wr.length + k2) q (q.1, e) (inl k q hq) (inr k2 _ h) rfl
      have := (List.getElem?_eq_some_iff.mp hq).1
      omega
    · omega
  have hDr : va_D A0 wr := ⟨fun i j x y hx hy e => hD.1 i j x y (inl i x hx) (inl j y hy) e, fun k q hq => hD.2 k q (inl k q hq)⟩
  refine ⟨va_P.app (fun k q hq => ?_) hP1, va_D.app hDr (hD1.weaken (fun k q _ h => hF q.1 h)) (fun i j x y hx hy hxy => ?_)⟩
  · obtain ⟨g1, g2⟩ := apart k q hq
    exact (hP k q (inl k q hq)).kept (hk q.1 g1 g2)
  · exact (apart i x hx).2 (by rw [hxy]; exact hD1.2 j y hy)
/-- what a constructor asks of its start -/
def ct_P (g : dp_G) (sz : Nat) (ws : va_W) : State → Prop := fun U => U.heap.size = sz ∧ va_P g.1 vwCl ws U.heap ∧ va_K g.1 vwCl (T3 g) U ∧ va_AOA .int U ∧ va_Nw ct_link U ∧ va_D (fun _ => True) ws
abbrev ct_Q {S : Type} (g : dp_G) (out : S → va_W) (A : Nat → Prop) : Array Value → State → Outcome → State → Prop := va_Qv (fun _ : S => True) (fun u t => va_P g.1 vwCl (out u) t.heap ∧ va_D A (out u)) A
theorem ct_pre {s : State} {H : Heap} {g : dp_G} {A : Nat → Prop} {wr ws : va_W} {As : List Value} (hP : va_P g.1 vwCl (wr ++ ws) H) (hK : va_K g.1 vwCl (T3 g) s) (hO : va_AOA .int s) (hN : va_Nw ct_link s) (hD : va_D A (wr ++ ws)) : PreS s H (va_Pc As (ct_P g H.size ws)) As := by
  have inr : ∀ (k : Nat) (q : Nat × va_E), ws[k]? = some q → (wr ++ ws)[wr.length + k]? = some q := fun k q h => by
    rw [List.getElem?_append_right (by omega), Nat.add_sub_cancel_left]
    exact h
  have hP1 : va_P g.1 vwCl ws H := fun k q hq => hP _ q (inr k q hq)
  have hD1 : va_D (fun _ => True) ws := ⟨fun i j x y hx hy e => by
    have := hD.1 _ _ x y (inr i x hx) (inr j y hy) e
    omega, fun _ _ _ => trivial⟩
  refine ⟨fun a U f mk q => ?_, fun U hU hW => ⟨rfl, by rw [hU], by rw [hU]; exact hP1, va_K.moved hW.alike hK, ct_aoa hW.alike hO, va_Nw.warmM hW hN, hD1⟩⟩
  obtain ⟨q0, q1, qP, qK, qO, qN, qD⟩ := q
  exact ⟨q0, q1, qP, va_K.moved (u := U) (U := U.calling f mk a) (Vm.Alike.refl U.vm) qK, ct_aoa (u := U) (U := U.calling f mk a) (Vm.Alike.refl U.vm) qO, va_Nw.same (u := U) (U := U.calling f mk a) rfl rfl qN, qD⟩
section CT
variable {p : Program} {l : Launch} {e : Env} {R : Room} {s : State} {m : MethodId} {args : Array Value} {below : List Frame} {meth : Method} {c : Code} {H : Heap} {locs : List Loc} {cells slots : Nat} {Q : State → Prop}
variable {cc : ByteArray} {pc : Nat} {ls : Array Slot} {rest st0 : List Value} {g : dp_G} {A : Nat → Prop} {ws : va_W} {H0 : Heap}
/-- new int[N] -/
theorem ct_newI (hexec : p.tables.exec = Jvm.exec) (hb : c.code = cc) (harr : (Cond.arrayClass .int).before args s = true) (hK : va_K g.1 vwCl (T3 g) s) (hP : va_P g.1 vwCl ws H) (hD : va_D A ws) (hS : va_S A H0 H locs) (hA : ∀ q, H0.size ≤ q → A q)
    {n : Int32} (N' : Nat) (hn : n = nI N') (hN : N' < 2 ^ 31) (hbytes : N' * componentBytes .int ≤ 536870912) (hcells : cells + 1 ≤ R.cells) (hslots : slots + N' ≤ R.slots) (hdg : decode cc pc = .ok (.newarray .int, 2))
    (kk : ∀ (q : Nat) (H1 : Heap), va_P g.1 vwCl (ws ++ [(q, ct_I g N' ct_z)]) H1 → va_D A (ws ++ [(q, ct_I g N' ct_z)]) → va_S A H0 H1 locs →
      W p l e R s m args below meth c H1 locs (cells + 1) (slots + N') Q (F0 m (pc + 2) ls (.ref q :: rest))) : W p l e R s m args below meth c H locs cells slots Q (F0 m pc ls (.int n :: rest)) := by
  subst hn
  refine va_newa (atype := .int) (ty := .int) (a0 := (N', .inl ct_z)) hexec hb harr rfl hK hP hD hS hA (fun cA => ?_) (nI_pos hN) (nI_clamp hN) hbytes hcells hslots hdg (fun q cA H1 hK1 hP1 hD1 hS1 => ?_)
  · show arrV cA N' (fun _ => .int (nI 0)) = _
    rw [nI_0]
    rfl
  · have e : (T3 g ++ [(cA, FieldType.int)])[(4 : Nat)]? = some (cA, .int) := rfl
    obtain rfl := ct_one (hK1.2 _ _ e).2 (hK.2 0 _ rfl).2
    exact kk q H1 hP1 hD1 hS1
theorem ct_str : "[" ++ (FieldType.array FieldType.int).toString = "[[I" := by decide +kernel
/-- new int[N][K] -/
theorem ct_newM (hexec : p.tables.exec = Jvm.exec) (hb : c.code = cc) {own : String} {index : Nat} (hown : s.vm.findClass own = some m.cls) (hclink : (Cond.classLink own index "[[I").before args s = true) (hover : va_AOA .int s) (harr : (Cond.arrayClass .int).before args s = true)
    (hK : va_K g.1 vwCl (T3 g) s) (hP : va_P g.1 vwCl ws H) (hD : va_D A ws) (hS : va_S A H0 H locs) (hA : ∀ q, H0.size ≤ q → A q) {n k : Int32} (N' K' : Nat) (hn : n = nI N') (hk : k = nI K') (hN : N' < 2 ^ 31) (hM : K' < 2 ^ 31)
    (hb1 : N' * 4 ≤ 536870912) (hb2 : K' * componentBytes .int ≤ 536870912) (hb3 : K' ≤ 536870912) (hcells : cells + (1 + N') ≤ R.cells) (hslots : slots + (N' + N' * K') ≤ R.slots) (hdg : decode cc pc = .ok (.multianewarray index 2, 4))
    (kk : ∀ (q : Nat) (r : Nat → Nat) (H1 : Heap), va_P g.1 vwCl (ws ++ ((q, ct_R g N' r) :: ct_rows g N' K' r)) H1 → va_D A (ws ++ ((q, ct_R g N' r) :: ct_rows g N' K' r)) → va_S A H0 H1 locs →
      W p l e R s m args below meth c H1 locs (cells + 1 + N') (slots + N' + N' * K') Q (F0 m (pc + 4) ls (.ref q :: rest))) : W p l e R s m args below meth c H locs cells slots Q (F0 m pc ls (.int k :: .int n :: rest)) := by
  subst hn
  subst hk
  have hnil : ws ++ va_pl [] (fun _ => ct_I g K' ct_z) = ws := List.append_nil ws
  refine va_mna (X := ws) (L := []) (f := fun _ => ct_I g K' ct_z) (ty := .int) (cy := g.2.1) (z := (K', .inl ct_z)) hexec hb hown (by rw [ct_str]; exact hclink) hover harr (hK.2 0 _ rfl).2 hK (by rw [hnil]; exact hP) (by rw [hnil]; exact hD) hS hA (nI_pos hN) (nI_pos hM) (nI_clamp hN) (nI_clamp hM) hb1 hb2 hb3 rfl rfl hcells hslots (fun c9 => ?_) hdg (fun q r cA H1 _ _ hK1 hP1 hD1 hS1 => ?_)
  · show ({ cls := c9, slots := Array.replicate K' (.int 0), vm := .none } : Cell) = _
    rw [arrV_new]
    show _ = arrV c9 K' (fun _ => .int (nI 0))
    rw [nI_0]
  · have e : (T3 g ++ [(cA, FieldType.array .int)])[(4 : Nat)]? = some (cA, .array .int) := rfl
    obtain rfl := ct_oneA (hK1.2 _ _ e).2 (hK.2 2 _ rfl).2
    have hrow : va_pl ([] ++ (List.range N').map r) (vr_up (fun _ => ct_I g K' ct_z) ((List.range N').map r) (ct_I g K' ct_z)) = ct_rows g N' K' r := by
      unfold va_pl
      rw [List.nil_append, List.map_map]
      apply List.map_congr_left
      intro i hi
      show (r i, vr_up _ _ _ (r i)) = _
      rw [vr_up_in (List.mem_map.mpr ⟨i, hi, rfl⟩)]
    rw [hrow, List.append_assoc] at hP1 hD1
    exact kk q r H1 hP1 hD1 hS1
/-- behind a constructor's call -/
theorem ct_ret {S : Type} {out : S → va_W} {wr wc : va_W} {av : Array Value} {mc ms : Nat} (hr : va_Run p l e R s m args below meth c H locs cells slots mc ms (F0 m pc ls st0) rest (ct_Q g out (va_A wc H.size) av) (va_A wc H.size))
    (hP : va_P g.1 vwCl (wr ++ wc) H) (hD : va_D A (wr ++ wc)) (hS : va_S A H0 H locs) (hA : ∀ q, H0.size ≤ q → A q)
    (kk : ∀ (u : S) (H1 : Heap) (locs1 : List Loc), va_P g.1 vwCl (wr ++ out u) H1 → va_D A (wr ++ out u) → va_S A H0 H1 locs1 → W p l e R s m args below meth c H1 locs1 (cells + mc) (slots + ms) Q (F0 m (pc + 3) ls rest)) : W p l e R s m args below meth c H locs cells slots Q (F0 m pc ls st0) := by
  have hF : ∀ q, va_A wc H.size q → A q := by
    intro q h
    rcases h with ⟨k, e9, h⟩ | h
    · refine hD.2 (wr.length + k) (q, e9) ?_
      rw [List.getElem?_append_right (by omega), Nat.add_sub_cancel_left]
      exact h
    · exact hA q (Nat.le_trans hS.1 h)
  refine va_callv hr hS (fun q _ h => hF q h) hF (fun u t H1 locs1 ht hvm hw hB hz1 hk1 hS => ?_)
  obtain ⟨hP1, hD1⟩ := hB
  rw [ht] at hP1
  obtain ⟨hP2, hD2⟩ := ct_join hP hD hk1 hF hP1 hD1
  exact kk u H1 locs1 hP2 hD2 hS
end CT
