/-! The constructor of the class. (written by wip/p28/ctor.py) -/
theorem ct_j0 : ∀ w ∈ wsX00, w ∈ wsX3_init := by decide +kernel
theorem ct_j1 : ∀ w ∈ wsX10, w ∈ wsX3_init := by decide +kernel
theorem ct_j2 : ∀ w ∈ wsX20, w ∈ wsX3_init := by decide +kernel
/-- the addresses of press, orders, now, later and tryout, and what each holds -/
abbrev ct_S3 : Type := (Nat × Nat × Nat × Nat × Nat) × ((Nat × Nat × Nat × Nat × Nat) × (Nat → Nat) × (Nat → Nat)) × ((Nat × Nat × Nat) × (Nat → Nat)) × (Nat × Nat × Nat × Nat) × (Nat × Nat × Nat × Nat)
abbrev in_X3 (h0 : Nat) : va_W := [(h0, .inr (3, [.null, .null, .null, .null, .null]))]
abbrev out_X3 (g : dp_G) (h0 : Nat) (u : ct_S3) : va_W := (h0, .inr (3, [.ref u.1.1, .ref u.1.2.1, .ref u.1.2.2.1, .ref u.1.2.2.2.1, .ref u.1.2.2.2.2])) :: ((((out_X2 g u.1.1 u.2.1 ++ out_X1 g u.1.2.1 u.2.2.1) ++ out_X0 g u.1.2.2.1 u.2.2.2.1) ++ out_X0 g u.1.2.2.2.1 u.2.2.2.2) ++ [(u.1.2.2.2.2, ct_I g 5 ct_z)])
set_option maxHeartbeats 4000000 in
set_option maxRecDepth 100000 in
/-- ClipBureau() -/
theorem met_X3 (l : Launch) (g : dp_G) (h0 sz : Nat) : Met l yX3_init wsX3_init ({ frames := 2, cells := 59, slots := 761, locals := 43 } : Room) (va_Pc [.ref h0] (ct_P g sz (in_X3 h0))) (ct_Q g (out_X3 g h0) (va_A (in_X3 h0) sz)) 59 761 (va_A (in_X3 h0) sz) := by
  refine Met.ofW (cc := cX3_init) (maxL := 1) (ret := none) (by decide) rfl ?_
  intro p e s m args below meth c s₁ B hml hv
  obtain ⟨rfl, hsz, hP, hK, hO, hN, hD0⟩ := hv
  have hx := B.exec
  have hb := B.bytes
  have hr := B.returns
  have hts := atoms_spec (ws := wsX3_init) B.pre
  have hown : s.vm.findClass RX3 = some m.cls := findClass_of_methodNamed B.named
  have hlocks := B.notSynchronized
  have hin : meth.name = "<init>" := (name_of_methodNamed B.named B.method).1
  subst hsz
  have hD := hD0.self (sz := s.heap.size)
  generalize hAe : va_A (in_X3 h0) s.heap.size = A at hD ⊢
  have hA : ∀ q : Nat, s.heap.size ≤ q → A q := fun q h => by rw [← hAe]; exact Or.inr h
  have hS : va_S A s.heap s.heap [] := va_S.rf
  have hl := lv_entry ([.ref h0]) (n := 1) (Nat.le_of_ble_eq_true rfl)
  rw [lg_entry_eq]
  generalize (lg_sl ([.ref h0]) ++ List.replicate (1 - (lg_sl ([.ref h0])).length) Slot.unset).toArray = ls at hl ⊢
  have hl : lv_has ls 1 [(0, .ref h0)] := hl
  refine lv_aload_n hx hb dX3_init_0 rfl (lv_at hl 0 rfl) ?_
  refine W.objInit hx hb hown (hts (.methodLink RX3 1 objectInit) (by decide +kernel)) (hts (.instanceMethod objectInit) (by decide +kernel)) (hts (.code objectInit ⟨#[0xb1]⟩ 1 none) (by decide +kernel)) rfl (by rw [hml]; exact hl.1) rfl dX3_init_1 (Nat.le_of_ble_eq_true rfl) (Nat.le_of_ble_eq_true rfl) ?_
  refine W.eq (g2 := F0 m 4 ls []) rfl ?_
  refine lv_aload_n hx hb dX3_init_4 rfl (lv_at hl 0 rfl) ?_
  refine va_new (ci := 2) (fs := [.null, .null, .null, .null, .null, .int 0]) (C := RX2) (T := TX2) (N := 6) hx hb hts ct_j2 tyX2 tyX2_ok hown (hts (.classLink RX3 7 RX2) (by decide +kernel)) (hts (.instantiable RX2 6) (by decide +kernel)) (hts (.initialized RX2) (by decide +kernel)) hK hP hD hS hA rfl (fun j hj => by rcases (show j = 0 ∨ j = 1 ∨ j = 2 ∨ j = 3 ∨ j = 4 ∨ j = 5 by omega) with rfl | rfl | rfl | rfl | rfl | rfl <;> rfl) (Nat.le_of_ble_eq_true rfl) (Nat.le_of_ble_eq_true rfl) dX3_init_5 (fun q1 H hP hD hS => ?_)
  refine lv_dup hx hb dX3_init_8 rfl ?_
  have hP : va_P g.1 vwCl (((h0, .inr (3, [.null, .null, .null, .null, .null])) :: []) ++ in_X2 q1) H := hP
  have hD : va_D A (((h0, .inr (3, [.null, .null, .null, .null, .null])) :: []) ++ in_X2 q1) := hD
  refine ct_ret (wr := ((h0, .inr (3, [.null, .null, .null, .null, .null])) :: [])) (wc := in_X2 q1) (out := out_X2 g q1) (va_runI (As := []) (rest := [.ref q1, .ref h0]) ⟨hx, hb, hml, hown, hts⟩ (met_X2 l g q1 H.size) (cwI 0 hts gX3_init_X2_init rfl rfl rfl (hts (.initialized RX2) (by decide +kernel)) (hts (.methodLink RX3 9 yX2_init) (by decide +kernel)) (hts (.instanceMethod yX2_init) (by decide +kernel)) rfl (by decide +kernel) ⟨Nat.le_of_ble_eq_true rfl, Nat.le_of_ble_eq_true rfl⟩) (ct_pre (wr := ((h0, .inr (3, [.null, .null, .null, .null, .null])) :: [])) hP hK hO hN hD) rfl rfl hl.1 rfl (lv_room (Nat.le_of_ble_eq_true rfl)) dX3_init_9 ⟨Nat.le_of_ble_eq_true rfl, Nat.le_of_ble_eq_true rfl⟩) hP hD hS hA (fun v1 H locs hP hD hS => ?_)
  have hP : va_P g.1 vwCl ((h0, .inr (3, [.null, .null, .null, .null, .null])) :: out_X2 g q1 v1) H := hP
  have hD : va_D A ((h0, .inr (3, [.null, .null, .null, .null, .null])) :: out_X2 g q1 v1) := hD
  refine va_putF (D := g.1) (ci := 3) (v := .ref q1) (ty := .object "ClipBureau$Press") (C := RX3) (T := TX3) (N := 5) hx hb hts ct_i3 tyX3 tyX3_ok nmX3 hown hK hP hD hS 0 rfl rfl 0 (by decide) (hts (.fieldLink RX3 10 "ClipBureau" "press" "LClipBureau$Press;") (by decide +kernel)) (fun _ h9 => h9) rfl hin rfl (by decide +kernel) rfl rfl (Nat.le_of_ble_eq_true rfl) dX3_init_12 (fun H locs hP hD hS => ?_)
  have hP : va_P g.1 vwCl ((h0, .inr (3, [.ref q1, .null, .null, .null, .null])) :: out_X2 g q1 v1) H := hP
  have hD : va_D A ((h0, .inr (3, [.ref q1, .null, .null, .null, .null])) :: out_X2 g q1 v1) := hD
  refine lv_aload_n hx hb dX3_init_15 rfl (lv_at hl 0 rfl) ?_
  refine va_new (ci := 1) (fs := [.null, .null, .null, .int 0]) (C := RX1) (T := TX1) (N := 4) hx hb hts ct_j1 tyX1 tyX1_ok hown (hts (.classLink RX3 16 RX1) (by decide +kernel)) (hts (.instantiable RX1 4) (by decide +kernel)) (hts (.initialized RX1) (by decide +kernel)) hK hP hD hS hA rfl (fun j hj => by rcases (show j = 0 ∨ j = 1 ∨ j = 2 ∨ j = 3 by omega) with rfl | rfl | rfl | rfl <;> rfl) (Nat.le_of_ble_eq_true rfl) (Nat.le_of_ble_eq_true rfl) dX3_init_16 (fun q2 H hP hD hS => ?_)
  refine lv_dup hx hb dX3_init_19 rfl ?_
  have hP : va_P g.1 vwCl (((h0, .inr (3, [.ref q1, .null, .null, .null, .null])) :: out_X2 g q1 v1) ++ in_X1 q2) H := hP
  have hD : va_D A (((h0, .inr (3, [.ref q1, .null, .null, .null, .null])) :: out_X2 g q1 v1) ++ in_X1 q2) := hD
  refine ct_ret (wr := ((h0, .inr (3, [.ref q1, .null, .null, .null, .null])) :: out_X2 g q1 v1)) (wc := in_X1 q2) (out := out_X1 g q2) (va_runI (As := []) (rest := [.ref q2, .ref h0]) ⟨hx, hb, hml, hown, hts⟩ (met_X1 l g q2 H.size) (cwI 0 hts gX3_init_X1_init rfl rfl rfl (hts (.initialized RX1) (by decide +kernel)) (hts (.methodLink RX3 18 yX1_init) (by decide +kernel)) (hts (.instanceMethod yX1_init) (by decide +kernel)) rfl (by decide +kernel) ⟨Nat.le_of_ble_eq_true rfl, Nat.le_of_ble_eq_true rfl⟩) (ct_pre (wr := ((h0, .inr (3, [.ref q1, .null, .null, .null, .null])) :: out_X2 g q1 v1)) hP hK hO hN hD) rfl rfl hl.1 rfl (lv_room (Nat.le_of_ble_eq_true rfl)) dX3_init_20 ⟨Nat.le_of_ble_eq_true rfl, Nat.le_of_ble_eq_true rfl⟩) hP hD hS hA (fun v2 H locs hP hD hS => ?_)
  have hP : va_P g.1 vwCl ((h0, .inr (3, [.ref q1, .null, .null, .null, .null])) :: (out_X2 g q1 v1 ++ out_X1 g q2 v2)) H := hP
  have hD : va_D A ((h0, .inr (3, [.ref q1, .null, .null, .null, .null])) :: (out_X2 g q1 v1 ++ out_X1 g q2 v2)) := hD
  refine va_putF (D := g.1) (ci := 3) (v := .ref q2) (ty := .object "ClipBureau$Orders") (C := RX3) (T := TX3) (N := 5) hx hb hts ct_i3 tyX3 tyX3_ok nmX3 hown hK hP hD hS 0 rfl rfl 1 (by decide) (hts (.fieldLink RX3 19 "ClipBureau" "orders" "LClipBureau$Orders;") (by decide +kernel)) (fun _ h9 => h9) rfl hin rfl (by decide +kernel) rfl rfl (Nat.le_of_ble_eq_true rfl) dX3_init_23 (fun H locs hP hD hS => ?_)
  have hP : va_P g.1 vwCl ((h0, .inr (3, [.ref q1, .ref q2, .null, .null, .null])) :: (out_X2 g q1 v1 ++ out_X1 g q2 v2)) H := hP
  have hD : va_D A ((h0, .inr (3, [.ref q1, .ref q2, .null, .null, .null])) :: (out_X2 g q1 v1 ++ out_X1 g q2 v2)) := hD
  refine lv_aload_n hx hb dX3_init_26 rfl (lv_at hl 0 rfl) ?_
  refine va_new (ci := 0) (fs := [.null, .null, .null, .null, .int 0]) (C := RX0) (T := TX0) (N := 5) hx hb hts ct_j0 tyX0 tyX0_ok hown (hts (.classLink RX3 23 RX0) (by decide +kernel)) (hts (.instantiable RX0 5) (by decide +kernel)) (hts (.initialized RX0) (by decide +kernel)) hK hP hD hS hA rfl (fun j hj => by rcases (show j = 0 ∨ j = 1 ∨ j = 2 ∨ j = 3 ∨ j = 4 by omega) with rfl | rfl | rfl | rfl | rfl <;> rfl) (Nat.le_of_ble_eq_true rfl) (Nat.le_of_ble_eq_true rfl) dX3_init_27 (fun q3 H hP hD hS => ?_)
  refine lv_dup hx hb dX3_init_30 rfl ?_
  have hP : va_P g.1 vwCl (((h0, .inr (3, [.ref q1, .ref q2, .null, .null, .null])) :: (out_X2 g q1 v1 ++ out_X1 g q2 v2)) ++ in_X0 q3) H := hP
  have hD : va_D A (((h0, .inr (3, [.ref q1, .ref q2, .null, .null, .null])) :: (out_X2 g q1 v1 ++ out_X1 g q2 v2)) ++ in_X0 q3) := hD
  refine ct_ret (wr := ((h0, .inr (3, [.ref q1, .ref q2, .null, .null, .null])) :: (out_X2 g q1 v1 ++ out_X1 g q2 v2))) (wc := in_X0 q3) (out := out_X0 g q3) (va_runIN (As := []) (rest := [.ref q3, .ref h0]) ⟨hx, hb, hml, hown, hts⟩ (met_X0 l g q3 H.size) ⟨va_cnB (own := RX3) (index := 25) (host := RX3) 0 hts gX3_init_X0_init_n25 rfl rfl rfl hN (hts (.initialized RX0) (by decide +kernel)) (by decide +kernel) ⟨Nat.le_of_ble_eq_true rfl, Nat.le_of_ble_eq_true rfl⟩, rfl, hts (.instanceMethod yX0_init) (by decide +kernel)⟩ (ct_pre (wr := ((h0, .inr (3, [.ref q1, .ref q2, .null, .null, .null])) :: (out_X2 g q1 v1 ++ out_X1 g q2 v2))) hP hK hO hN hD) rfl rfl hl.1 rfl (lv_room (Nat.le_of_ble_eq_true rfl)) dX3_init_31 ⟨Nat.le_of_ble_eq_true rfl, Nat.le_of_ble_eq_true rfl⟩) hP hD hS hA (fun v3 H locs hP hD hS => ?_)
  have hP : va_P g.1 vwCl ((h0, .inr (3, [.ref q1, .ref q2, .null, .null, .null])) :: ((out_X2 g q1 v1 ++ out_X1 g q2 v2) ++ out_X0 g q3 v3)) H := hP
  have hD : va_D A ((h0, .inr (3, [.ref q1, .ref q2, .null, .null, .null])) :: ((out_X2 g q1 v1 ++ out_X1 g q2 v2) ++ out_X0 g q3 v3)) := hD
  refine va_putF (D := g.1) (ci := 3) (v := .ref q3) (ty := .object "ClipBureau$Ledger") (C := RX3) (T := TX3) (N := 5) hx hb hts ct_i3 tyX3 tyX3_ok nmX3 hown hK hP hD hS 0 rfl rfl 2 (by decide) (hts (.fieldLink RX3 26 "ClipBureau" "now" "LClipBureau$Ledger;") (by decide +kernel)) (fun _ h9 => h9) rfl hin rfl (by decide +kernel) rfl rfl (Nat.le_of_ble_eq_true rfl) dX3_init_34 (fun H locs hP hD hS => ?_)
  have hP : va_P g.1 vwCl ((h0, .inr (3, [.ref q1, .ref q2, .ref q3, .null, .null])) :: ((out_X2 g q1 v1 ++ out_X1 g q2 v2) ++ out_X0 g q3 v3)) H := hP
  have hD : va_D A ((h0, .inr (3, [.ref q1, .ref q2, .ref q3, .null, .null])) :: ((out_X2 g q1 v1 ++ out_X1 g q2 v2) ++ out_X0 g q3 v3)) := hD
  refine lv_aload_n hx hb dX3_init_37 rfl (lv_at hl 0 rfl) ?_
  refine va_new (ci := 0) (fs := [.null, .null, .null, .null, .int 0]) (C := RX0) (T := TX0) (N := 5) hx hb hts ct_j0 tyX0 tyX0_ok hown (hts (.classLink RX3 23 RX0) (by decide +kernel)) (hts (.instantiable RX0 5) (by decide +kernel)) (hts (.initialized RX0) (by decide +kernel)) hK hP hD hS hA rfl (fun j hj => by rcases (show j = 0 ∨ j = 1 ∨ j = 2 ∨ j = 3 ∨ j = 4 by omega) with rfl | rfl | rfl | rfl | rfl <;> rfl) (Nat.le_of_ble_eq_true rfl) (Nat.le_of_ble_eq_true rfl) dX3_init_38 (fun q4 H hP hD hS => ?_)
  refine lv_dup hx hb dX3_init_41 rfl ?_
  have hP : va_P g.1 vwCl (((h0, .inr (3, [.ref q1, .ref q2, .ref q3, .null, .null])) :: ((out_X2 g q1 v1 ++ out_X1 g q2 v2) ++ out_X0 g q3 v3)) ++ in_X0 q4) H := hP
  have hD : va_D A (((h0, .inr (3, [.ref q1, .ref q2, .ref q3, .null, .null])) :: ((out_X2 g q1 v1 ++ out_X1 g q2 v2) ++ out_X0 g q3 v3)) ++ in_X0 q4) := hD
  refine ct_ret (wr := ((h0, .inr (3, [.ref q1, .ref q2, .ref q3, .null, .null])) :: ((out_X2 g q1 v1 ++ out_X1 g q2 v2) ++ out_X0 g q3 v3))) (wc := in_X0 q4) (out := out_X0 g q4) (va_runIN (As := []) (rest := [.ref q4, .ref h0]) ⟨hx, hb, hml, hown, hts⟩ (met_X0 l g q4 H.size) ⟨va_cnB (own := RX3) (index := 25) (host := RX3) 0 hts gX3_init_X0_init_n25 rfl rfl rfl hN (hts (.initialized RX0) (by decide +kernel)) (by decide +kernel) ⟨Nat.le_of_ble_eq_true rfl, Nat.le_of_ble_eq_true rfl⟩, rfl, hts (.instanceMethod yX0_init) (by decide +kernel)⟩ (ct_pre (wr := ((h0, .inr (3, [.ref q1, .ref q2, .ref q3, .null, .null])) :: ((out_X2 g q1 v1 ++ out_X1 g q2 v2) ++ out_X0 g q3 v3))) hP hK hO hN hD) rfl rfl hl.1 rfl (lv_room (Nat.le_of_ble_eq_true rfl)) dX3_init_42 ⟨Nat.le_of_ble_eq_true rfl, Nat.le_of_ble_eq_true rfl⟩) hP hD hS hA (fun v4 H locs hP hD hS => ?_)
  have hP : va_P g.1 vwCl ((h0, .inr (3, [.ref q1, .ref q2, .ref q3, .null, .null])) :: (((out_X2 g q1 v1 ++ out_X1 g q2 v2) ++ out_X0 g q3 v3) ++ out_X0 g q4 v4)) H := hP
  have hD : va_D A ((h0, .inr (3, [.ref q1, .ref q2, .ref q3, .null, .null])) :: (((out_X2 g q1 v1 ++ out_X1 g q2 v2) ++ out_X0 g q3 v3) ++ out_X0 g q4 v4)) := hD
  refine va_putF (D := g.1) (ci := 3) (v := .ref q4) (ty := .object "ClipBureau$Ledger") (C := RX3) (T := TX3) (N := 5) hx hb hts ct_i3 tyX3 tyX3_ok nmX3 hown hK hP hD hS 0 rfl rfl 3 (by decide) (hts (.fieldLink RX3 30 "ClipBureau" "later" "LClipBureau$Ledger;") (by decide +kernel)) (fun _ h9 => h9) rfl hin rfl (by decide +kernel) rfl rfl (Nat.le_of_ble_eq_true rfl) dX3_init_45 (fun H locs hP hD hS => ?_)
  have hP : va_P g.1 vwCl ((h0, .inr (3, [.ref q1, .ref q2, .ref q3, .ref q4, .null])) :: (((out_X2 g q1 v1 ++ out_X1 g q2 v2) ++ out_X0 g q3 v3) ++ out_X0 g q4 v4)) H := hP
  have hD : va_D A ((h0, .inr (3, [.ref q1, .ref q2, .ref q3, .ref q4, .null])) :: (((out_X2 g q1 v1 ++ out_X1 g q2 v2) ++ out_X0 g q3 v3) ++ out_X0 g q4 v4)) := hD
  refine lv_aload_n hx hb dX3_init_48 rfl (lv_at hl 0 rfl) ?_
  refine lv_iconst (v := nI 5) hx hb dX3_init_49 (by decide +kernel) ?_
  refine ct_newI hx hb (hts (.arrayClass .int) (by decide +kernel)) hK hP hD hS hA 5 rfl (by decide) (Nat.le_of_ble_eq_true rfl) (Nat.le_of_ble_eq_true rfl) (Nat.le_of_ble_eq_true rfl) dX3_init_50 (fun q5 H hP hD hS => ?_)
  have hP : va_P g.1 vwCl ((h0, .inr (3, [.ref q1, .ref q2, .ref q3, .ref q4, .null])) :: ((((out_X2 g q1 v1 ++ out_X1 g q2 v2) ++ out_X0 g q3 v3) ++ out_X0 g q4 v4) ++ [(q5, ct_I g 5 ct_z)])) H := hP
  have hD : va_D A ((h0, .inr (3, [.ref q1, .ref q2, .ref q3, .ref q4, .null])) :: ((((out_X2 g q1 v1 ++ out_X1 g q2 v2) ++ out_X0 g q3 v3) ++ out_X0 g q4 v4) ++ [(q5, ct_I g 5 ct_z)])) := hD
  refine va_putF (D := g.1) (ci := 3) (v := .ref q5) (ty := .array .int) (C := RX3) (T := TX3) (N := 5) hx hb hts ct_i3 tyX3 tyX3_ok nmX3 hown hK hP hD hS 0 rfl rfl 4 (by decide) (hts (.fieldLink RX3 33 "ClipBureau" "tryout" "[I") (by decide +kernel)) (fun _ h9 => h9) rfl hin rfl (by decide +kernel) rfl rfl (Nat.le_of_ble_eq_true rfl) dX3_init_52 (fun H locs hP hD hS => ?_)
  have hP : va_P g.1 vwCl ((h0, .inr (3, [.ref q1, .ref q2, .ref q3, .ref q4, .ref q5])) :: ((((out_X2 g q1 v1 ++ out_X1 g q2 v2) ++ out_X0 g q3 v3) ++ out_X0 g q4 v4) ++ [(q5, ct_I g 5 ct_z)])) H := hP
  have hD : va_D A ((h0, .inr (3, [.ref q1, .ref q2, .ref q3, .ref q4, .ref q5])) :: ((((out_X2 g q1 v1 ++ out_X1 g q2 v2) ++ out_X0 g q3 v3) ++ out_X0 g q4 v4) ++ [(q5, ct_I g 5 ct_z)])) := hD
  refine W.widen (k := 59) (n := 761) (Nat.le_of_ble_eq_true rfl) (Nat.le_of_ble_eq_true rfl) ?_
  exact W.vret hx hb hr (fun t ht hW => ⟨⟨((q1, q2, q3, q4, q5), v1, v2, v3, v4), rfl, trivial, by rw [ht]; exact hP, hD⟩, hS.F ht⟩) hS.2.2 dX3_init_55
