/-! The law, from its entry. -/
set_option maxHeartbeats 4000000 in
set_option maxRecDepth 100000 in
theorem whole_start {p : Program} {e : Env} {s : State} {m : MethodId} {below : List Frame} {meth : Method} {c : Code} (l : Launch) (hflags : l.flags = flags0) {b L : Nat} {xs : Nat → Int32} (hL : L ≤ 1536) (htab : c.exceptionTable.toList = []) (C0 : lw_At p s m meth c b L xs) : W p l e room_1 s m #[Value.ref b] below meth c s.heap [] 0 0 (lw_Z below #[Value.ref b] s) (entryFrame m ([Value.ref b] : List Value).toArray 9) := by
  obtain ⟨hx, hb, hr, hml, hown, hts, hX, hbl, hlocks, hgv⟩ := id C0
  have hA : ∀ q : Nat, s.heap.size ≤ q → lwA s q := fun _ h => h
  obtain ⟨g, hK⟩ := st_K hts
  have hG := st_GF (xs := xs) hts hgv hX hbl hK
  have hO : va_AOA .int s := st_aoa (hts _ st_aA)
  have hN : va_Nw ct_link s := va_Nw.of rfl (hts _ st_aN)
  have hS : va_S (lwA s) s.heap s.heap [] := va_S.rf
  have hP : va_P g.1 vwCl [] s.heap := fun k q h => by simp at h
  have hD : va_D (lwA s) [] := ⟨fun i j p q h => by simp at h, fun k q h => by simp at h⟩
  have hl := lv_entry ([.ref b]) (n := 9) (Nat.le_of_ble_eq_true rfl)
  rw [lg_entry_eq]
  generalize (lg_sl ([.ref b]) ++ List.replicate (9 - (lg_sl ([.ref b])).length) Slot.unset).toArray = ls at hl ⊢
  have hl : lv_has ls 9 [(0, .ref b)] := hl
  refine va_new (ci := 3) (fs := [.null, .null, .null, .null, .null]) (C := RX3) (T := TX3) (N := 5) hx hb hts st_k3 tyX3 tyX3_ok hown (hts _ st_c3.2.1) (hts _ st_n3) (hts _ st_c3.1) hK hP hD hS hA rfl (fun j hj => by rcases (show j = 0 ∨ j = 1 ∨ j = 2 ∨ j = 3 ∨ j = 4 by omega) with rfl | rfl | rfl | rfl | rfl <;> rfl) (Nat.le_of_ble_eq_true rfl) (Nat.le_of_ble_eq_true rfl) dL_law_0 (fun q H hP hD hS => ?_)
  refine lv_dup hx hb dL_law_3 rfl ?_
  have hP : va_P g.1 vwCl ([] ++ in_X3 q) H := hP
  have hD : va_D (lwA s) ([] ++ in_X3 q) := hD
  refine ct_ret (wr := []) (wc := in_X3 q) (out := out_X3 g q) (va_runI (As := []) (rest := [.ref q]) ⟨hx, hb, hml, hown, hts⟩ (met_X3 l g q H.size) (cwI 0 hts st_g3 rfl rfl rfl (hts _ st_c3.1) (hts _ st_c3.2.2.1) (hts _ st_c3.2.2.2) rfl (by decide +kernel) ⟨Nat.le_of_ble_eq_true rfl, Nat.le_of_ble_eq_true rfl⟩) (ct_pre (wr := []) hP hK hO hN hD) rfl rfl hl.1 rfl (lv_room (Nat.le_of_ble_eq_true rfl)) dL_law_4 ⟨Nat.le_of_ble_eq_true rfl, Nat.le_of_ble_eq_true rfl⟩) hP hD hS hA (fun u H locs hP hD hS => ?_)
  have hP : va_P g.1 vwCl (out_X3 g q u) H := hP
  have hD : va_D (lwA s) (out_X3 g q u) := hD
  refine lv_astore_n (lv' := [(1, .ref q), (0, .ref b)]) hx hb dL_law_7 rfl hl (by decide) rfl (fun ls hl => ?_)
  refine va_new (ci := 4) (fs := [.int 0, .int 0, .int 0, .int 0, .null, .null, .null]) (C := RX4) (T := TX4) (N := 7) hx hb hts st_k4 tyX4 tyX4_ok hown (hts _ st_c4.2.1) (hts _ st_n4) (hts _ st_c4.1) hK hP hD hS hA rfl (fun j hj => by rcases (show j = 0 ∨ j = 1 ∨ j = 2 ∨ j = 3 ∨ j = 4 ∨ j = 5 ∨ j = 6 by omega) with rfl | rfl | rfl | rfl | rfl | rfl | rfl <;> rfl) (Nat.le_of_ble_eq_true rfl) (Nat.le_of_ble_eq_true rfl) dL_law_8 (fun mo H hP hD hS => ?_)
  refine lv_dup hx hb dL_law_11 rfl ?_
  have hP : va_P g.1 vwCl (out_X3 g q u ++ in_X4 mo) H := hP
  have hD : va_D (lwA s) (out_X3 g q u ++ in_X4 mo) := hD
  refine ct_ret (wr := out_X3 g q u) (wc := in_X4 mo) (out := out_X4 g mo) (va_runI (As := []) (rest := [.ref mo]) ⟨hx, hb, hml, hown, hts⟩ (met_X4 l g mo H.size) (cwI 0 hts st_g4 rfl rfl rfl (hts _ st_c4.1) (hts _ st_c4.2.2.1) (hts _ st_c4.2.2.2) rfl (by decide +kernel) ⟨Nat.le_of_ble_eq_true rfl, Nat.le_of_ble_eq_true rfl⟩) (ct_pre (wr := out_X3 g q u) hP hK hO hN hD) rfl rfl hl.1 rfl (lv_room (Nat.le_of_ble_eq_true rfl)) dL_law_12 ⟨Nat.le_of_ble_eq_true rfl, Nat.le_of_ble_eq_true rfl⟩) hP hD hS hA (fun v H locs hP hD hS => ?_)
  refine lv_astore_n (lv' := [(2, .ref mo), (1, .ref q), (0, .ref b)]) hx hb dL_law_15 rfl hl (by decide) rfl (fun ls hl => ?_)
  refine lv_iconst (v := nI 1) hx hb dL_law_16 (by decide +kernel) ?_
  refine va_newa (atype := .long) (ty := .long) (N' := 1) (a0 := (1, .inr (.inl fun j => if j = 0 then (0 : Int64) else 0))) hx hb (hts _ st_aL) rfl hK hP hD hS hA (fun cA => ?_) (nI_pos (by decide)) (nI_clamp (by decide)) (Nat.le_of_ble_eq_true rfl) (Nat.le_of_ble_eq_true rfl) (Nat.le_of_ble_eq_true rfl) dL_law_17 (fun oo cA H hK1 hP hD hS => ?_)
  · show arrV cA 1 (fun j => .long (if j = 0 then (0 : Int64) else 0)) = arrV cA 1 (fun _ => .long 0)
    refine congrArg (arrV cA 1) (funext fun j => ?_)
    rw [ite_self]
  have eL : cA = g.2.2.1 := by
    have e0 : (T3 g ++ [(cA, FieldType.long)])[(3 : Nat)]? = some (cA, .long) := rfl
    have e1 : s.vm.findClass _ = some cA := (hK1.2 _ _ e0).2
    have e2 : s.vm.findClass _ = some g.2.2.1 := (hK.2 1 _ rfl).2
    exact Option.some.inj (e1.symm.trans e2)
  subst eL
  refine lv_astore_n (lv' := [(3, .ref oo), (2, .ref mo), (1, .ref q), (0, .ref b)]) hx hb dL_law_19 rfl hl (by decide) rfl (fun ls hl => ?_)
  refine lv_iconst (v := nI 0) hx hb dL_law_20 (by decide +kernel) ?_
  refine lv_istore (lv' := [(4, .int (nI 0)), (3, .ref oo), (2, .ref mo), (1, .ref q), (0, .ref b)]) hx hb dL_law_21 hl (by decide) rfl (fun ls hl => ?_)
  have hst : l.stackTraces = false := by
    unfold Launch.stackTraces
    rw [hflags]
    decide +kernel
  have heta : s.setDrawn s.drawn = s := by cases s; rfl
  have C : dp_Cx p l room_1 s m #[Value.ref b] c g (L, xs) b (lwA s) 146 11 := ⟨hx, by rw [hb]; rfl, by rw [hml, mL_146], by rw [ow_146]; exact hown, fun w hw => hts w (dp_wd_good w hw).1, hst, by rw [htab, hh_146]; rfl, by decide, by decide, by decide, mc_146.symm, ms_146.symm, by decide, hG⟩
  have hc := law_clo (ad0 := st_ad q u mo v oo b) (e := e) (below := below) (meth := meth) (d0 := s.drawn) (s := s) (by rw [heta]; exact C) (Drawn.sameBut.refl s.drawn lw_cs) hb hr hlocks
  have hk := law_loop (d := 0) hc hL (fun _ _ => rfl) (L + 4) 0 65 1098 M00 0 s00 l00 none none none none (by show L + 3 - 0 < L + 4; omega) (Nat.zero_le _) JJ00 (by omega) (by omega)
  rw [heta] at hk
  have hLH : dp_LH ls (dp_mL 146) (st_ad q u mo v oo b) [some (.ref 1000), some (.ref 0), some (.ref 22), some (.ref 26), some (.int (nI 0)), none, none, none, none] := by
    rw [mL_146]
    refine dp_LH.of hl (fun j w hj => ?_)
    match j, hj with
    | 0, hj => cases hj; exact List.mem_of_getElem? (i := 4) rfl
    | 1, hj => cases hj; exact List.mem_of_getElem? (i := 3) rfl
    | 2, hj => cases hj; exact List.mem_of_getElem? (i := 2) rfl
    | 3, hj => cases hj; exact List.mem_of_getElem? (i := 1) rfl
    | 4, hj => cases hj; exact List.mem_of_getElem? (i := 0) rfl
    | 5, hj => cases hj
    | 6, hj => cases hj
    | 7, hj => cases hj
    | 8, hj => cases hj
    | j + 9, hj => cases hj
  refine W.widen (k := 65) (n := 1098) (Nat.le_of_ble_eq_true rfl) (Nat.le_of_ble_eq_true rfl) ?_
  exact hk ⟨Nat.le_refl _, by omega⟩ (st_ad q u mo v oo b) H _ ls (fun _ _ => rfl) rfl hLH (st_P hP) (st_D hD) hS
