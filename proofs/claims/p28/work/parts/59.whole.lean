/-! The law, from its entry. -/
set_option maxHeartbeats 4000000 in
set_option maxRecDepth 100000 in
theorem whole_start {p : Program} {e : Env} {s : State} {m : MethodId} {below : List Frame} {meth : Method} {c : Code} (l : Launch) (hflags : l.flags = flags0) {b L : Nat} {xs : Nat → Int32} (hL : L ≤ 260) (htab : c.exceptionTable.toList = []) (C0 : lw_At p s m meth c b L xs) : W p l e room_1 s m #[Value.ref b] below meth c s.heap [] 0 0 (lw_Z below #[Value.ref b] s) (entryFrame m ([Value.ref b] : List Value).toArray 19) := by
  obtain ⟨hx, hb, hr, hml, hown, hts, hX, hbl, hlocks, hgv⟩ := id C0
  have hA : ∀ q : Nat, s.heap.size ≤ q → lwA s q := fun _ h => h
  obtain ⟨g, hK⟩ := st_K hts
  have hG := st_GF (xs := xs) hts hgv hX hbl hK
  have hO : va_AOA .int s := st_aoa (hts _ st_aA)
  have hN : va_Nw ct_link s := va_Nw.of rfl (hts _ st_aN)
  have hS : va_S (lwA s) s.heap s.heap [] := va_S.rf
  have hP : va_P g.1 vwCl [] s.heap := fun k q h => by simp at h
  have hD : va_D (lwA s) [] := ⟨fun i j p q h => by simp at h, fun k q h => by simp at h⟩
  have hl := lv_entry ([.ref b]) (n := 19) (Nat.le_of_ble_eq_true rfl)
  rw [lg_entry_eq]
  generalize (lg_sl ([.ref b]) ++ List.replicate (19 - (lg_sl ([.ref b])).length) Slot.unset).toArray = ls at hl ⊢
  have hl : lv_has ls 19 [(0, .ref b)] := hl
  refine va_new (ci := 3) (fs := [.null, .null, .null, .null, .null]) (C := RX3) (T := TX3) (N := 5) hx hb hts st_k3 tyX3 tyX3_ok hown (hts _ st_c3.2.1) (hts _ st_n3) (hts _ st_c3.1) hK hP hD hS hA rfl (fun j hj => by rcases (show j = 0 ∨ j = 1 ∨ j = 2 ∨ j = 3 ∨ j = 4 by omega) with rfl | rfl | rfl | rfl | rfl <;> rfl) (Nat.le_of_ble_eq_true rfl) (Nat.le_of_ble_eq_true rfl) dL_law_0 (fun q H hP hD hS => ?_)
  refine lv_dup hx hb dL_law_3 rfl ?_
  have hP : va_P g.1 vwCl ([] ++ in_X3 q) H := hP
  have hD : va_D (lwA s) ([] ++ in_X3 q) := hD
  refine ct_ret (wr := []) (wc := in_X3 q) (out := out_X3 g q) (va_runI (As := []) (rest := [.ref q]) ⟨hx, hb, hml, hown, hts⟩ (met_X3 l g q H.size) (cwI 0 hts st_g3 rfl rfl rfl (hts _ st_c3.1) (hts _ st_c3.2.2.1) (hts _ st_c3.2.2.2) rfl (by decide +kernel) ⟨Nat.le_of_ble_eq_true rfl, Nat.le_of_ble_eq_true rfl⟩) (ct_pre (wr := []) hP hK hO hN hD) rfl rfl hl.1 rfl (lv_room (Nat.le_of_ble_eq_true rfl)) dL_law_4 ⟨Nat.le_of_ble_eq_true rfl, Nat.le_of_ble_eq_true rfl⟩) hP hD hS hA (fun u H locs hP hD hS => ?_)
  have hP : va_P g.1 vwCl (out_X3 g q u) H := hP
  have hD : va_D (lwA s) (out_X3 g q u) := hD
  refine lv_astore_n (lv' := [(1, .ref q), (0, .ref b)]) hx hb dL_law_7 rfl hl (by decide) rfl (fun ls hl => ?_)
  have hst : l.stackTraces = false := by
    unfold Launch.stackTraces
    rw [hflags]
    decide +kernel
  have heta : s.setDrawn s.drawn = s := by cases s; rfl
  have C : dp_Cx p l room_1 s m #[Value.ref b] c g (L, xs) b (lwA s) 77 10 := ⟨hx, by rw [hb]; rfl, by rw [hml, mL_77], by rw [ow_77]; exact hown, fun w hw => hts w (dp_wd_good w hw).1, hst, htab, by decide, by decide, by decide, mc_77.symm, ms_77.symm, by decide, hG⟩
  have hc := law_clo (ad := st_ad q u b) (e := e) (below := below) (meth := meth) (d0 := s.drawn) (s := s) (by rw [heta]; exact C) st_adk (Drawn.sameBut.refl s.drawn lw_cs) hb hr hlocks
  have hk := law_run (d := 0) (n := 65) (cc := 1000) (qq := 10000) (M := M00) (o := fun _ => none) (Nat.le_refl _) hc (show L < 2 ^ 31 by omega) (Nat.le_refl _) (Nat.le_refl _) JC00 (fun _ _ => rfl)
  rw [heta] at hk
  have hLH : dp_LH ls (dp_mL 77) (st_ad q u b) [some (.ref 1000), some (.ref 0), none, none, none, none, none, none, none, none, none, none, none, none, none, none, none, none, none] := by
    rw [mL_77]
    refine dp_LH.of hl (fun j w hj => ?_)
    match j, hj with
    | 0, hj => cases hj; exact List.mem_of_getElem? (i := 1) rfl
    | 1, hj => cases hj; exact List.mem_of_getElem? (i := 0) rfl
    | 2, hj => cases hj
    | 3, hj => cases hj
    | 4, hj => cases hj
    | 5, hj => cases hj
    | 6, hj => cases hj
    | 7, hj => cases hj
    | 8, hj => cases hj
    | 9, hj => cases hj
    | 10, hj => cases hj
    | 11, hj => cases hj
    | 12, hj => cases hj
    | 13, hj => cases hj
    | 14, hj => cases hj
    | 15, hj => cases hj
    | 16, hj => cases hj
    | 17, hj => cases hj
    | 18, hj => cases hj
    | j + 19, hj => cases hj
  refine W.widen (k := 1000) (n := 10000) (Nat.le_of_ble_eq_true rfl) (Nat.le_of_ble_eq_true rfl) ?_
  exact hk rfl [] H _ ls (fun h c z => by cases z) hLH (st_P hP) (st_D hD) hS
