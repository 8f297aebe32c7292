/-! The constructors' contracts: this alone in, this and all that it makes out. (written by wip/p28/ctor.py) -/
abbrev in_X0 (h0 : Nat) : va_W := [(h0, .inr (0, [.null, .null, .null, .null, .int 0]))]
abbrev out_X0 (g : dp_G) (h0 : Nat) (u : Nat × Nat × Nat × Nat) : va_W := [(h0, .inr (0, [.ref u.1, .ref u.2.1, .ref u.2.2.1, .ref u.2.2.2, .int 0])), (u.1, ct_I g 16 ct_z), (u.2.1, ct_I g 6 ct_z), (u.2.2.1, ct_I g 6 ct_z), (u.2.2.2, ct_I g 6 ct_z)]
abbrev in_X1 (h0 : Nat) : va_W := [(h0, .inr (1, [.null, .null, .null, .int 0]))]
abbrev out_X1 (g : dp_G) (h0 : Nat) (u : (Nat × Nat × Nat) × (Nat → Nat)) : va_W := (h0, .inr (1, [.ref u.1.1, .ref u.1.2.1, .ref u.1.2.2, .int 0])) :: (((u.1.1, ct_R g 6 u.2) :: ct_rows g 6 5 u.2) ++ [(u.1.2.1, ct_I g 6 ct_z)]) ++ [(u.1.2.2, ct_I g 6 (ct_fl (nI 20) 6))]
abbrev in_X2 (h0 : Nat) : va_W := [(h0, .inr (2, [.null, .null, .null, .null, .null, .int 0]))]
abbrev out_X2 (g : dp_G) (h0 : Nat) (u : (Nat × Nat × Nat × Nat × Nat) × (Nat → Nat) × (Nat → Nat)) : va_W := (h0, .inr (2, [.ref u.1.1, .ref u.1.2.1, .ref u.1.2.2.1, .ref u.1.2.2.2.1, .ref u.1.2.2.2.2, .int 0])) :: (u.1.1, ct_I g 40 (ct_st 40)) :: (((((u.1.2.1, ct_R g 16 u.2.1) :: ct_rows g 16 12 u.2.1) ++ [(u.1.2.2.1, ct_I g 16 ct_z)]) ++ ((u.1.2.2.2.1, ct_R g 16 u.2.2) :: ct_rows g 16 20 u.2.2)) ++ [(u.1.2.2.2.2, ct_I g 20 ct_z)])
theorem ct_i0 : ∀ w ∈ wsX00, w ∈ wsX0_init := by decide +kernel
theorem ct_i1 : ∀ w ∈ wsX10, w ∈ wsX1_init := by decide +kernel
theorem ct_i2 : ∀ w ∈ wsX20, w ∈ wsX2_init := by decide +kernel
theorem ct_i3 : ∀ w ∈ wsX30, w ∈ wsX3_init := by decide +kernel
section CTL
variable {p : Program} {l : Launch} {e : Env} {R : Room} {s : State} {m : MethodId} {args : Array Value} {below : List Frame} {meth : Method} {c : Code} {cells slots : Nat} {Q : State → Prop} {g : dp_G} {A : Nat → Prop} {H0 : Heap}
theorem ct_loopF (hx : p.tables.exec = Jvm.exec) (hb : c.code = cJ7_fill_53178) (hK : va_K g.1 vwCl (T3 g) s) {a : Nat} {v : Int32}
    (kk : ∀ (H : Heap) (locs : List Loc) (ls : Array Slot), va_P g.1 vwCl [(a, ct_I g 6 (ct_fl v 6))] H → va_D A [(a, ct_I g 6 (ct_fl v 6))] → va_S A H0 H locs → W p l e R s m args below meth c H locs cells slots Q (F0 m 20 ls [])) :
    ∀ (n i : Nat) (H : Heap) (locs : List Loc) (ls : Array Slot), i ≤ 6 → 7 ≤ i + n → va_P g.1 vwCl [(a, ct_I g 6 (ct_fl v i))] H → va_D A [(a, ct_I g 6 (ct_fl v i))] → va_S A H0 H locs → lv_has ls 4 [(0, .ref a), (1, .int v), (2, .int (nI i)), (3, .int (nI 6))] → W p l e R s m args below meth c H locs cells slots Q (F0 m 5 ls []) := by
  intro n
  induction n with
  | zero => intro i H locs ls h1 h2; omega
  | succ n ih =>
    intro i H locs ls h1 h2 hP hD hS hl
    refine lv_iload_n hx hb dJ7_fill_53178_5 rfl (lv_at hl 2 rfl) ?_
    refine lv_iload_n hx hb dJ7_fill_53178_6 rfl (lv_at hl 3 rfl) ?_
    refine lv_icmp_ge (tgt := 20) hx hb dJ7_fill_53178_7 (by decide) (fun w9 => ?_) (fun w9 => ?_)
    · have h6 : i = 6 := by
        have := (nI_leI (a := 6) (b := i) (by omega) (by omega)).mp w9
        omega
      subst h6
      exact kk H locs ls hP hD hS
    · have h6 : i < 6 := by
        rcases Nat.lt_or_ge i 6 with q | q
        · exact q
        · exact absurd (nI_le q (by omega)) w9
      refine lv_aload_n hx hb dJ7_fill_53178_10 rfl (lv_at hl 0 rfl) ?_
      refine lv_iload_n hx hb dJ7_fill_53178_11 rfl (lv_at hl 2 rfl) ?_
      refine lv_iload_n hx hb dJ7_fill_53178_12 rfl (lv_at hl 1 rfl) ?_
      refine va_iast hx hb hK hP hD hS 0 0 rfl rfl (vp_in_nI h6 (by omega)) dJ7_fill_53178_13 (fun H1 locs1 hP hD hS => ?_)
      rw [nI_clamp (n := i) (by omega), ct_fl_up] at hP hD
      refine lv_iinc (v := nI (i + 1)) (lv' := [(2, .int (nI (i + 1))), (0, .ref a), (1, .int v), (3, .int (nI 6))]) hx hb dJ7_fill_53178_14 hl (k := 2) rfl (by rw [← nI_1]; rfl) (by decide) rfl (fun ls hl => ?_)
      refine lv_goto (tgt := 5) hx hb dJ7_fill_53178_17 (by decide) ?_
      exact ih (i + 1) H1 locs1 ls h6 (by omega) hP hD hS (lv_sub hl [1, 2, 0, 3] rfl)
theorem ct_loop2 (hx : p.tables.exec = Jvm.exec) (hb : c.code = cX2_init) (hown : s.vm.findClass RX2 = some m.cls) (hts : ∀ w ∈ wsX2_init, w.before args s = true) (hK : va_K g.1 vwCl (T3 g) s) {h0 u1 u2 u3 u4 u5 : Nat} {tl : va_W}
    (kk : ∀ (H : Heap) (locs : List Loc) (ls : Array Slot), va_P g.1 vwCl ((h0, .inr (2, [.ref u1, .ref u2, .ref u3, .ref u4, .ref u5, .int 0])) :: (u1, ct_I g 40 (ct_st 40)) :: tl) H → va_D A ((h0, .inr (2, [.ref u1, .ref u2, .ref u3, .ref u4, .ref u5, .int 0])) :: (u1, ct_I g 40 (ct_st 40)) :: tl) → va_S A H0 H locs → W p l e R s m args below meth c H locs cells slots Q (F0 m 75 ls [])) :
    ∀ (n i : Nat) (H : Heap) (locs : List Loc) (ls : Array Slot), i ≤ 40 → 41 ≤ i + n → va_P g.1 vwCl ((h0, .inr (2, [.ref u1, .ref u2, .ref u3, .ref u4, .ref u5, .int 0])) :: (u1, ct_I g 40 (ct_st i)) :: tl) H → va_D A ((h0, .inr (2, [.ref u1, .ref u2, .ref u3, .ref u4, .ref u5, .int 0])) :: (u1, ct_I g 40 (ct_st i)) :: tl) → va_S A H0 H locs → lv_has ls 2 [(0, .ref h0), (1, .int (nI i))] → W p l e R s m args below meth c H locs cells slots Q (F0 m 54 ls []) := by
  intro n
  induction n with
  | zero => intro i H locs ls h1 h2; omega
  | succ n ih =>
    intro i H locs ls h1 h2 hP hD hS hl
    refine lv_iload_n hx hb dX2_init_54 rfl (lv_at hl 1 rfl) ?_
    refine lv_bipush (v := nI 40) hx hb dX2_init_55 (by decide +kernel) ?_
    refine lv_icmp_ge (tgt := 75) hx hb dX2_init_57 (by decide) (fun w9 => ?_) (fun w9 => ?_)
    · have h6 : i = 40 := by
        have := (nI_leI (a := 40) (b := i) (by omega) (by omega)).mp w9
        omega
      subst h6
      exact kk H locs ls hP hD hS
    · have h6 : i < 40 := by
        rcases Nat.lt_or_ge i 40 with q | q
        · exact q
        · exact absurd (nI_le q (by omega)) w9
      refine lv_aload_n hx hb dX2_init_60 rfl (lv_at hl 0 rfl) ?_
      refine va_get (D := g.1) (ci := 2) (v := .ref u1) (C := RX2) (T := TX2) (N := 6) hx hb hts ct_i2 hown hK hP 0 rfl rfl 0 (by decide) (hts (.fieldLink RX2 9 "ClipBureau$Press" "stems" "[I") (by decide +kernel)) (fun _ h9 => h9) rfl dX2_init_61 ?_
      refine lv_iload_n hx hb dX2_init_64 rfl (lv_at hl 1 rfl) ?_
      refine lv_iload_n hx hb dX2_init_65 rfl (lv_at hl 1 rfl) ?_
      refine lv_iconst (v := nI 2) hx hb dX2_init_66 (by decide +kernel) ?_
      refine lv_idiv hx hb dX2_init_67 (by decide +kernel) ?_
      refine va_iast hx hb hK hP hD hS 1 0 rfl rfl (vp_in_nI h6 (by omega)) dX2_init_68 (fun H1 locs1 hP hD hS => ?_)
      rw [nI_clamp (n := i) (by omega), pk_div (a := i) (d := 2) (by omega) (by omega) (by omega), ct_st_up] at hP hD
      refine lv_iinc (v := nI (i + 1)) (lv' := [(1, .int (nI (i + 1))), (0, .ref h0)]) hx hb dX2_init_69 hl (k := 1) rfl (by rw [← nI_1]; rfl) (by decide) rfl (fun ls hl => ?_)
      refine lv_goto (tgt := 54) hx hb dX2_init_72 (by decide) ?_
      exact ih (i + 1) H1 locs1 ls h6 (by omega) hP hD hS (lv_sub hl [1, 0] rfl)
end CTL
set_option maxHeartbeats 4000000 in
set_option maxRecDepth 100000 in
/-- Arrays.fill(int[6], v), over a row of zeros -/
theorem met_fill (l : Launch) (g : dp_G) (h0 sz : Nat) (v : Int32) : Met l yJ7_fill_53178 wsJ7_fill_53178 ({ frames := 0, cells := 0, slots := 0, locals := 0 } : Room) (va_Pc [.ref h0, .int v] (ct_P g sz [(h0, ct_I g 6 ct_z)])) (ct_Q g (fun _ : Unit => [(h0, ct_I g 6 (ct_fl v 6))]) (va_A [(h0, ct_I g 6 ct_z)] sz)) 0 0 (va_A [(h0, ct_I g 6 ct_z)] sz) := by
  refine Met.ofW (cc := cJ7_fill_53178) (maxL := 4) (ret := none) (by decide) rfl ?_
  intro p e s m args below meth c s₁ B hml hv
  obtain ⟨rfl, hsz, hP, hK, hO, hN, hD0⟩ := hv
  have hx := B.exec
  have hb := B.bytes
  have hr := B.returns
  have hts := atoms_spec (ws := wsJ7_fill_53178) B.pre
  have hown : s.vm.findClass RJ7 = some m.cls := findClass_of_methodNamed B.named
  have hlocks := B.notSynchronized
  have hin : meth.name = "fill" := (name_of_methodNamed B.named B.method).1
  subst hsz
  have hD := hD0.self (sz := s.heap.size)
  generalize hAe : va_A [(h0, ct_I g 6 ct_z)] s.heap.size = A at hD ⊢
  have hA : ∀ q : Nat, s.heap.size ≤ q → A q := fun q h => by rw [← hAe]; exact Or.inr h
  have hS : va_S A s.heap s.heap [] := va_S.rf
  have hl := lv_entry ([.ref h0, .int v]) (n := 4) (Nat.le_of_ble_eq_true rfl)
  rw [lg_entry_eq]
  generalize (lg_sl ([.ref h0, .int v]) ++ List.replicate (4 - (lg_sl ([.ref h0, .int v])).length) Slot.unset).toArray = ls at hl ⊢
  have hl : lv_has ls 4 [(0, .ref h0), (1, .int v)] := hl
  refine lv_iconst (v := nI 0) hx hb dJ7_fill_53178_0 (by decide +kernel) ?_
  refine lv_istore_n (lv' := [(2, .int (nI 0)), (0, .ref h0), (1, .int v)]) hx hb dJ7_fill_53178_1 rfl hl (by decide) rfl (fun ls hl => ?_)
  refine lv_aload_n hx hb dJ7_fill_53178_2 rfl (lv_at hl 1 rfl) ?_
  refine va_alen (v := nI 6) hx hb hK hP 0 0 rfl rfl rfl dJ7_fill_53178_3 ?_
  refine lv_istore_n (lv' := [(3, .int (nI 6)), (2, .int (nI 0)), (0, .ref h0), (1, .int v)]) hx hb dJ7_fill_53178_4 rfl hl (by decide) rfl (fun ls hl => ?_)
  refine ct_loopF (v := v) (a := h0) (A := A) (H0 := s.heap) hx hb hK (fun H locs ls hP hD hS => ?_) 7 0 _ _ ls (by omega) (by omega) (by rw [ct_fl_0]; exact hP) (by rw [ct_fl_0]; exact hD) hS (lv_sub hl [2, 3, 1, 0] rfl)
  exact W.vret hx hb hr (fun t ht hW => ⟨⟨(), rfl, trivial, by rw [ht]; exact hP, hD⟩, hS.F ht⟩) hS.2.2 dJ7_fill_53178_20
set_option maxHeartbeats 4000000 in
set_option maxRecDepth 100000 in
/-- Ledger() -/
theorem met_X0 (l : Launch) (g : dp_G) (h0 sz : Nat) : Met l yX0_init wsX0_init ({ frames := 1, cells := 4, slots := 34, locals := 12 } : Room) (va_Pc [.ref h0] (ct_P g sz (in_X0 h0))) (ct_Q g (out_X0 g h0) (va_A (in_X0 h0) sz)) 4 34 (va_A (in_X0 h0) sz) := by
  refine Met.ofW (cc := cX0_init) (maxL := 1) (ret := none) (by decide) rfl ?_
  intro p e s m args below meth c s₁ B hml hv
  obtain ⟨rfl, hsz, hP, hK, hO, hN, hD0⟩ := hv
  have hx := B.exec
  have hb := B.bytes
  have hr := B.returns
  have hts := atoms_spec (ws := wsX0_init) B.pre
  have hown : s.vm.findClass RX0 = some m.cls := findClass_of_methodNamed B.named
  have hlocks := B.notSynchronized
  have hin : meth.name = "<init>" := (name_of_methodNamed B.named B.method).1
  subst hsz
  have hD := hD0.self (sz := s.heap.size)
  generalize hAe : va_A (in_X0 h0) s.heap.size = A at hD ⊢
  have hA : ∀ q : Nat, s.heap.size ≤ q → A q := fun q h => by rw [← hAe]; exact Or.inr h
  have hS : va_S A s.heap s.heap [] := va_S.rf
  have hl := lv_entry ([.ref h0]) (n := 1) (Nat.le_of_ble_eq_true rfl)
  rw [lg_entry_eq]
  generalize (lg_sl ([.ref h0]) ++ List.replicate (1 - (lg_sl ([.ref h0])).length) Slot.unset).toArray = ls at hl ⊢
  have hl : lv_has ls 1 [(0, .ref h0)] := hl
  refine lv_aload_n hx hb dX0_init_0 rfl (lv_at hl 0 rfl) ?_
  refine W.objInit hx hb hown (hts (.methodLink RX0 3 objectInit) (by decide +kernel)) (hts (.instanceMethod objectInit) (by decide +kernel)) (hts (.code objectInit ⟨#[0xb1]⟩ 1 none) (by decide +kernel)) rfl (by rw [hml]; exact hl.1) rfl dX0_init_1 (Nat.le_of_ble_eq_true rfl) (Nat.le_of_ble_eq_true rfl) ?_
  refine W.eq (g2 := F0 m 4 ls []) rfl ?_
  refine lv_aload_n hx hb dX0_init_4 rfl (lv_at hl 0 rfl) ?_
  refine lv_bipush (v := nI 16) hx hb dX0_init_5 (by decide +kernel) ?_
  refine ct_newI hx hb (hts (.arrayClass .int) (by decide +kernel)) hK hP hD hS hA 16 rfl (by decide) (Nat.le_of_ble_eq_true rfl) (Nat.le_of_ble_eq_true rfl) (Nat.le_of_ble_eq_true rfl) dX0_init_7 (fun u1 H hP hD hS => ?_)
  have hP : va_P g.1 vwCl ((h0, .inr (0, [.null, .null, .null, .null, .int 0])) :: [(u1, ct_I g 16 ct_z)]) H := hP
  have hD : va_D A ((h0, .inr (0, [.null, .null, .null, .null, .int 0])) :: [(u1, ct_I g 16 ct_z)]) := hD
  refine va_putF (D := g.1) (ci := 0) (v := .ref u1) (ty := .array .int) (C := RX0) (T := TX0) (N := 5) hx hb hts ct_i0 tyX0 tyX0_ok nmX0 hown hK hP hD hS 0 rfl rfl 0 (by decide) (hts (.fieldLink RX0 9 "ClipBureau$Ledger" "ages" "[I") (by decide +kernel)) (fun _ h9 => h9) rfl hin rfl (by decide +kernel) rfl rfl (Nat.le_of_ble_eq_true rfl) dX0_init_9 (fun H locs hP hD hS => ?_)
  have hP : va_P g.1 vwCl ((h0, .inr (0, [.ref u1, .null, .null, .null, .int 0])) :: [(u1, ct_I g 16 ct_z)]) H := hP
  have hD : va_D A ((h0, .inr (0, [.ref u1, .null, .null, .null, .int 0])) :: [(u1, ct_I g 16 ct_z)]) := hD
  refine lv_aload_n hx hb dX0_init_12 rfl (lv_at hl 0 rfl) ?_
  refine lv_bipush (v := nI 6) hx hb dX0_init_13 (by decide +kernel) ?_
  refine ct_newI hx hb (hts (.arrayClass .int) (by decide +kernel)) hK hP hD hS hA 6 rfl (by decide) (Nat.le_of_ble_eq_true rfl) (Nat.le_of_ble_eq_true rfl) (Nat.le_of_ble_eq_true rfl) dX0_init_15 (fun u2 H hP hD hS => ?_)
  have hP : va_P g.1 vwCl ((h0, .inr (0, [.ref u1, .null, .null, .null, .int 0])) :: [(u1, ct_I g 16 ct_z), (u2, ct_I g 6 ct_z)]) H := hP
  have hD : va_D A ((h0, .inr (0, [.ref u1, .null, .null, .null, .int 0])) :: [(u1, ct_I g 16 ct_z), (u2, ct_I g 6 ct_z)]) := hD
  refine va_putF (D := g.1) (ci := 0) (v := .ref u2) (ty := .array .int) (C := RX0) (T := TX0) (N := 5) hx hb hts ct_i0 tyX0 tyX0_ok nmX0 hown hK hP hD hS 0 rfl rfl 1 (by decide) (hts (.fieldLink RX0 15 "ClipBureau$Ledger" "coins" "[I") (by decide +kernel)) (fun _ h9 => h9) rfl hin rfl (by decide +kernel) rfl rfl (Nat.le_of_ble_eq_true rfl) dX0_init_17 (fun H locs hP hD hS => ?_)
  have hP : va_P g.1 vwCl ((h0, .inr (0, [.ref u1, .ref u2, .null, .null, .int 0])) :: [(u1, ct_I g 16 ct_z), (u2, ct_I g 6 ct_z)]) H := hP
  have hD : va_D A ((h0, .inr (0, [.ref u1, .ref u2, .null, .null, .int 0])) :: [(u1, ct_I g 16 ct_z), (u2, ct_I g 6 ct_z)]) := hD
  refine lv_aload_n hx hb dX0_init_20 rfl (lv_at hl 0 rfl) ?_
  refine lv_bipush (v := nI 6) hx hb dX0_init_21 (by decide +kernel) ?_
  refine ct_newI hx hb (hts (.arrayClass .int) (by decide +kernel)) hK hP hD hS hA 6 rfl (by decide) (Nat.le_of_ble_eq_true rfl) (Nat.le_of_ble_eq_true rfl) (Nat.le_of_ble_eq_true rfl) dX0_init_23 (fun u3 H hP hD hS => ?_)
  have hP : va_P g.1 vwCl ((h0, .inr (0, [.ref u1, .ref u2, .null, .null, .int 0])) :: [(u1, ct_I g 16 ct_z), (u2, ct_I g 6 ct_z), (u3, ct_I g 6 ct_z)]) H := hP
  have hD : va_D A ((h0, .inr (0, [.ref u1, .ref u2, .null, .null, .int 0])) :: [(u1, ct_I g 16 ct_z), (u2, ct_I g 6 ct_z), (u3, ct_I g 6 ct_z)]) := hD
  refine va_putF (D := g.1) (ci := 0) (v := .ref u3) (ty := .array .int) (C := RX0) (T := TX0) (N := 5) hx hb hts ct_i0 tyX0 tyX0_ok nmX0 hown hK hP hD hS 0 rfl rfl 2 (by decide) (hts (.fieldLink RX0 18 "ClipBureau$Ledger" "paid" "[I") (by decide +kernel)) (fun _ h9 => h9) rfl hin rfl (by decide +kernel) rfl rfl (Nat.le_of_ble_eq_true rfl) dX0_init_25 (fun H locs hP hD hS => ?_)
  have hP : va_P g.1 vwCl ((h0, .inr (0, [.ref u1, .ref u2, .ref u3, .null, .int 0])) :: [(u1, ct_I g 16 ct_z), (u2, ct_I g 6 ct_z), (u3, ct_I g 6 ct_z)]) H := hP
  have hD : va_D A ((h0, .inr (0, [.ref u1, .ref u2, .ref u3, .null, .int 0])) :: [(u1, ct_I g 16 ct_z), (u2, ct_I g 6 ct_z), (u3, ct_I g 6 ct_z)]) := hD
  refine lv_aload_n hx hb dX0_init_28 rfl (lv_at hl 0 rfl) ?_
  refine lv_bipush (v := nI 6) hx hb dX0_init_29 (by decide +kernel) ?_
  refine ct_newI hx hb (hts (.arrayClass .int) (by decide +kernel)) hK hP hD hS hA 6 rfl (by decide) (Nat.le_of_ble_eq_true rfl) (Nat.le_of_ble_eq_true rfl) (Nat.le_of_ble_eq_true rfl) dX0_init_31 (fun u4 H hP hD hS => ?_)
  have hP : va_P g.1 vwCl ((h0, .inr (0, [.ref u1, .ref u2, .ref u3, .null, .int 0])) :: [(u1, ct_I g 16 ct_z), (u2, ct_I g 6 ct_z), (u3, ct_I g 6 ct_z), (u4, ct_I g 6 ct_z)]) H := hP
  have hD : va_D A ((h0, .inr (0, [.ref u1, .ref u2, .ref u3, .null, .int 0])) :: [(u1, ct_I g 16 ct_z), (u2, ct_I g 6 ct_z), (u3, ct_I g 6 ct_z), (u4, ct_I g 6 ct_z)]) := hD
  refine va_putF (D := g.1) (ci := 0) (v := .ref u4) (ty := .array .int) (C := RX0) (T := TX0) (N := 5) hx hb hts ct_i0 tyX0 tyX0_ok nmX0 hown hK hP hD hS 0 rfl rfl 3 (by decide) (hts (.fieldLink RX0 21 "ClipBureau$Ledger" "sent" "[I") (by decide +kernel)) (fun _ h9 => h9) rfl hin rfl (by decide +kernel) rfl rfl (Nat.le_of_ble_eq_true rfl) dX0_init_33 (fun H locs hP hD hS => ?_)
  have hP : va_P g.1 vwCl ((h0, .inr (0, [.ref u1, .ref u2, .ref u3, .ref u4, .int 0])) :: [(u1, ct_I g 16 ct_z), (u2, ct_I g 6 ct_z), (u3, ct_I g 6 ct_z), (u4, ct_I g 6 ct_z)]) H := hP
  have hD : va_D A ((h0, .inr (0, [.ref u1, .ref u2, .ref u3, .ref u4, .int 0])) :: [(u1, ct_I g 16 ct_z), (u2, ct_I g 6 ct_z), (u3, ct_I g 6 ct_z), (u4, ct_I g 6 ct_z)]) := hD
  refine W.widen (k := 4) (n := 34) (Nat.le_of_ble_eq_true rfl) (Nat.le_of_ble_eq_true rfl) ?_
  exact W.vret hx hb hr (fun t ht hW => ⟨⟨(u1, u2, u3, u4), rfl, trivial, by rw [ht]; exact hP, hD⟩, hS.F ht⟩) hS.2.2 dX0_init_36
set_option maxHeartbeats 4000000 in
set_option maxRecDepth 100000 in
/-- Orders() -/
theorem met_X1 (l : Launch) (g : dp_G) (h0 sz : Nat) : Met l yX1_init wsX1_init ({ frames := 1, cells := 9, slots := 48, locals := 23 } : Room) (va_Pc [.ref h0] (ct_P g sz (in_X1 h0))) (ct_Q g (out_X1 g h0) (va_A (in_X1 h0) sz)) 9 48 (va_A (in_X1 h0) sz) := by
  refine Met.ofW (cc := cX1_init) (maxL := 1) (ret := none) (by decide) rfl ?_
  intro p e s m args below meth c s₁ B hml hv
  obtain ⟨rfl, hsz, hP, hK, hO, hN, hD0⟩ := hv
  have hx := B.exec
  have hb := B.bytes
  have hr := B.returns
  have hts := atoms_spec (ws := wsX1_init) B.pre
  have hown : s.vm.findClass RX1 = some m.cls := findClass_of_methodNamed B.named
  have hlocks := B.notSynchronized
  have hin : meth.name = "<init>" := (name_of_methodNamed B.named B.method).1
  subst hsz
  have hD := hD0.self (sz := s.heap.size)
  generalize hAe : va_A (in_X1 h0) s.heap.size = A at hD ⊢
  have hA : ∀ q : Nat, s.heap.size ≤ q → A q := fun q h => by rw [← hAe]; exact Or.inr h
  have hS : va_S A s.heap s.heap [] := va_S.rf
  have hl := lv_entry ([.ref h0]) (n := 1) (Nat.le_of_ble_eq_true rfl)
  rw [lg_entry_eq]
  generalize (lg_sl ([.ref h0]) ++ List.replicate (1 - (lg_sl ([.ref h0])).length) Slot.unset).toArray = ls at hl ⊢
  have hl : lv_has ls 1 [(0, .ref h0)] := hl
  refine lv_aload_n hx hb dX1_init_0 rfl (lv_at hl 0 rfl) ?_
  refine W.objInit hx hb hown (hts (.methodLink RX1 3 objectInit) (by decide +kernel)) (hts (.instanceMethod objectInit) (by decide +kernel)) (hts (.code objectInit ⟨#[0xb1]⟩ 1 none) (by decide +kernel)) rfl (by rw [hml]; exact hl.1) rfl dX1_init_1 (Nat.le_of_ble_eq_true rfl) (Nat.le_of_ble_eq_true rfl) ?_
  refine W.eq (g2 := F0 m 4 ls []) rfl ?_
  refine lv_aload_n hx hb dX1_init_4 rfl (lv_at hl 0 rfl) ?_
  refine lv_bipush (v := nI 6) hx hb dX1_init_5 (by decide +kernel) ?_
  refine lv_iconst (v := nI 5) hx hb dX1_init_7 (by decide +kernel) ?_
  refine ct_newM hx hb hown (hts (.classLink RX1 9 "[[I") (by decide +kernel)) hO (hts (.arrayClass .int) (by decide +kernel)) hK hP hD hS hA 6 5 rfl rfl (by decide) (by decide) (Nat.le_of_ble_eq_true rfl) (Nat.le_of_ble_eq_true rfl) (Nat.le_of_ble_eq_true rfl) (Nat.le_of_ble_eq_true rfl) (Nat.le_of_ble_eq_true rfl) dX1_init_8 (fun u1 r1 H hP hD hS => ?_)
  have hP : va_P g.1 vwCl ((h0, .inr (1, [.null, .null, .null, .int 0])) :: ((u1, ct_R g 6 r1) :: ct_rows g 6 5 r1)) H := hP
  have hD : va_D A ((h0, .inr (1, [.null, .null, .null, .int 0])) :: ((u1, ct_R g 6 r1) :: ct_rows g 6 5 r1)) := hD
  refine va_putF (D := g.1) (ci := 1) (v := .ref u1) (ty := .array (.array .int)) (C := RX1) (T := TX1) (N := 4) hx hb hts ct_i1 tyX1 tyX1_ok nmX1 hown hK hP hD hS 0 rfl rfl 0 (by decide) (hts (.fieldLink RX1 11 "ClipBureau$Orders" "wants" "[[I") (by decide +kernel)) (fun _ h9 => h9) rfl hin rfl (by decide +kernel) rfl rfl (Nat.le_of_ble_eq_true rfl) dX1_init_12 (fun H locs hP hD hS => ?_)
  have hP : va_P g.1 vwCl ((h0, .inr (1, [.ref u1, .null, .null, .int 0])) :: ((u1, ct_R g 6 r1) :: ct_rows g 6 5 r1)) H := hP
  have hD : va_D A ((h0, .inr (1, [.ref u1, .null, .null, .int 0])) :: ((u1, ct_R g 6 r1) :: ct_rows g 6 5 r1)) := hD
  refine lv_aload_n hx hb dX1_init_15 rfl (lv_at hl 0 rfl) ?_
  refine lv_bipush (v := nI 6) hx hb dX1_init_16 (by decide +kernel) ?_
  refine ct_newI hx hb (hts (.arrayClass .int) (by decide +kernel)) hK hP hD hS hA 6 rfl (by decide) (Nat.le_of_ble_eq_true rfl) (Nat.le_of_ble_eq_true rfl) (Nat.le_of_ble_eq_true rfl) dX1_init_18 (fun u2 H hP hD hS => ?_)
  have hP : va_P g.1 vwCl ((h0, .inr (1, [.ref u1, .null, .null, .int 0])) :: (((u1, ct_R g 6 r1) :: ct_rows g 6 5 r1) ++ [(u2, ct_I g 6 ct_z)])) H := hP
  have hD : va_D A ((h0, .inr (1, [.ref u1, .null, .null, .int 0])) :: (((u1, ct_R g 6 r1) :: ct_rows g 6 5 r1) ++ [(u2, ct_I g 6 ct_z)])) := hD
  refine va_putF (D := g.1) (ci := 1) (v := .ref u2) (ty := .array .int) (C := RX1) (T := TX1) (N := 4) hx hb hts ct_i1 tyX1 tyX1_ok nmX1 hown hK hP hD hS 0 rfl rfl 1 (by decide) (hts (.fieldLink RX1 16 "ClipBureau$Orders" "sizes" "[I") (by decide +kernel)) (fun _ h9 => h9) rfl hin rfl (by decide +kernel) rfl rfl (Nat.le_of_ble_eq_true rfl) dX1_init_20 (fun H locs hP hD hS => ?_)
  have hP : va_P g.1 vwCl ((h0, .inr (1, [.ref u1, .ref u2, .null, .int 0])) :: (((u1, ct_R g 6 r1) :: ct_rows g 6 5 r1) ++ [(u2, ct_I g 6 ct_z)])) H := hP
  have hD : va_D A ((h0, .inr (1, [.ref u1, .ref u2, .null, .int 0])) :: (((u1, ct_R g 6 r1) :: ct_rows g 6 5 r1) ++ [(u2, ct_I g 6 ct_z)])) := hD
  refine lv_aload_n hx hb dX1_init_23 rfl (lv_at hl 0 rfl) ?_
  refine lv_bipush (v := nI 6) hx hb dX1_init_24 (by decide +kernel) ?_
  refine ct_newI hx hb (hts (.arrayClass .int) (by decide +kernel)) hK hP hD hS hA 6 rfl (by decide) (Nat.le_of_ble_eq_true rfl) (Nat.le_of_ble_eq_true rfl) (Nat.le_of_ble_eq_true rfl) dX1_init_26 (fun u3 H hP hD hS => ?_)
  have hP : va_P g.1 vwCl ((h0, .inr (1, [.ref u1, .ref u2, .null, .int 0])) :: ((((u1, ct_R g 6 r1) :: ct_rows g 6 5 r1) ++ [(u2, ct_I g 6 ct_z)]) ++ [(u3, ct_I g 6 ct_z)])) H := hP
  have hD : va_D A ((h0, .inr (1, [.ref u1, .ref u2, .null, .int 0])) :: ((((u1, ct_R g 6 r1) :: ct_rows g 6 5 r1) ++ [(u2, ct_I g 6 ct_z)]) ++ [(u3, ct_I g 6 ct_z)])) := hD
  refine va_putF (D := g.1) (ci := 1) (v := .ref u3) (ty := .array .int) (C := RX1) (T := TX1) (N := 4) hx hb hts ct_i1 tyX1 tyX1_ok nmX1 hown hK hP hD hS 0 rfl rfl 2 (by decide) (hts (.fieldLink RX1 20 "ClipBureau$Orders" "bars" "[I") (by decide +kernel)) (fun _ h9 => h9) rfl hin rfl (by decide +kernel) rfl rfl (Nat.le_of_ble_eq_true rfl) dX1_init_28 (fun H locs hP hD hS => ?_)
  have hP : va_P g.1 vwCl ((h0, .inr (1, [.ref u1, .ref u2, .ref u3, .int 0])) :: ((((u1, ct_R g 6 r1) :: ct_rows g 6 5 r1) ++ [(u2, ct_I g 6 ct_z)]) ++ [(u3, ct_I g 6 ct_z)])) H := hP
  have hD : va_D A ((h0, .inr (1, [.ref u1, .ref u2, .ref u3, .int 0])) :: ((((u1, ct_R g 6 r1) :: ct_rows g 6 5 r1) ++ [(u2, ct_I g 6 ct_z)]) ++ [(u3, ct_I g 6 ct_z)])) := hD
  refine lv_aload_n hx hb dX1_init_31 rfl (lv_at hl 0 rfl) ?_
  refine va_get (D := g.1) (ci := 1) (v := .ref u3) (C := RX1) (T := TX1) (N := 4) hx hb hts ct_i1 hown hK hP 0 rfl rfl 2 (by decide) (hts (.fieldLink RX1 20 "ClipBureau$Orders" "bars" "[I") (by decide +kernel)) (fun _ h9 => h9) rfl dX1_init_32 ?_
  refine lv_bipush (v := nI 20) hx hb dX1_init_35 (by decide +kernel) ?_
  have hP : va_P g.1 vwCl (((h0, .inr (1, [.ref u1, .ref u2, .ref u3, .int 0])) :: (((u1, ct_R g 6 r1) :: ct_rows g 6 5 r1) ++ [(u2, ct_I g 6 ct_z)])) ++ [(u3, ct_I g 6 ct_z)]) H := hP
  have hD : va_D A (((h0, .inr (1, [.ref u1, .ref u2, .ref u3, .int 0])) :: (((u1, ct_R g 6 r1) :: ct_rows g 6 5 r1) ++ [(u2, ct_I g 6 ct_z)])) ++ [(u3, ct_I g 6 ct_z)]) := hD
  refine ct_ret (wr := ((h0, .inr (1, [.ref u1, .ref u2, .ref u3, .int 0])) :: (((u1, ct_R g 6 r1) :: ct_rows g 6 5 r1) ++ [(u2, ct_I g 6 ct_z)]))) (wc := [(u3, ct_I g 6 ct_z)]) (out := fun _ : Unit => [(u3, ct_I g 6 (ct_fl (nI 20) 6))]) (va_runS (As := [.ref u3, .int (nI 20)]) (rest := []) ⟨hx, hb, hml, hown, hts⟩ (met_fill l g u3 H.size (nI 20)) (va_cwS 2 hts gX1_init_J7_fill_53178 rfl rfl rfl (by decide +kernel) ⟨Nat.le_of_ble_eq_true rfl, Nat.le_of_ble_eq_true rfl⟩) (ct_pre (wr := ((h0, .inr (1, [.ref u1, .ref u2, .ref u3, .int 0])) :: (((u1, ct_R g 6 r1) :: ct_rows g 6 5 r1) ++ [(u2, ct_I g 6 ct_z)]))) hP hK hO hN hD) rfl rfl hl.1 rfl (lv_room (Nat.le_of_ble_eq_true rfl)) dX1_init_37 ⟨Nat.le_of_ble_eq_true rfl, Nat.le_of_ble_eq_true rfl⟩) hP hD hS hA (fun _ H locs hP hD hS => ?_)
  refine W.widen (k := 9) (n := 48) (Nat.le_of_ble_eq_true rfl) (Nat.le_of_ble_eq_true rfl) ?_
  exact W.vret hx hb hr (fun t ht hW => ⟨⟨((u1, u2, u3), r1), rfl, trivial, by rw [ht]; exact hP, hD⟩, hS.F ht⟩) hS.2.2 dX1_init_40
set_option maxHeartbeats 4000000 in
set_option maxRecDepth 100000 in
/-- Press() -/
theorem met_X2 (l : Launch) (g : dp_G) (h0 sz : Nat) : Met l yX2_init wsX2_init ({ frames := 1, cells := 37, slots := 620, locals := 12 } : Room) (va_Pc [.ref h0] (ct_P g sz (in_X2 h0))) (ct_Q g (out_X2 g h0) (va_A (in_X2 h0) sz)) 37 620 (va_A (in_X2 h0) sz) := by
  refine Met.ofW (cc := cX2_init) (maxL := 2) (ret := none) (by decide) rfl ?_
  intro p e s m args below meth c s₁ B hml hv
  obtain ⟨rfl, hsz, hP, hK, hO, hN, hD0⟩ := hv
  have hx := B.exec
  have hb := B.bytes
  have hr := B.returns
  have hts := atoms_spec (ws := wsX2_init) B.pre
  have hown : s.vm.findClass RX2 = some m.cls := findClass_of_methodNamed B.named
  have hlocks := B.notSynchronized
  have hin : meth.name = "<init>" := (name_of_methodNamed B.named B.method).1
  subst hsz
  have hD := hD0.self (sz := s.heap.size)
  generalize hAe : va_A (in_X2 h0) s.heap.size = A at hD ⊢
  have hA : ∀ q : Nat, s.heap.size ≤ q → A q := fun q h => by rw [← hAe]; exact Or.inr h
  have hS : va_S A s.heap s.heap [] := va_S.rf
  have hl := lv_entry ([.ref h0]) (n := 2) (Nat.le_of_ble_eq_true rfl)
  rw [lg_entry_eq]
  generalize (lg_sl ([.ref h0]) ++ List.replicate (2 - (lg_sl ([.ref h0])).length) Slot.unset).toArray = ls at hl ⊢
  have hl : lv_has ls 2 [(0, .ref h0)] := hl
  refine lv_aload_n hx hb dX2_init_0 rfl (lv_at hl 0 rfl) ?_
  refine W.objInit hx hb hown (hts (.methodLink RX2 3 objectInit) (by decide +kernel)) (hts (.instanceMethod objectInit) (by decide +kernel)) (hts (.code objectInit ⟨#[0xb1]⟩ 1 none) (by decide +kernel)) rfl (by rw [hml]; exact hl.1) rfl dX2_init_1 (Nat.le_of_ble_eq_true rfl) (Nat.le_of_ble_eq_true rfl) ?_
  refine W.eq (g2 := F0 m 4 ls []) rfl ?_
  refine lv_aload_n hx hb dX2_init_4 rfl (lv_at hl 0 rfl) ?_
  refine lv_bipush (v := nI 40) hx hb dX2_init_5 (by decide +kernel) ?_
  refine ct_newI hx hb (hts (.arrayClass .int) (by decide +kernel)) hK hP hD hS hA 40 rfl (by decide) (Nat.le_of_ble_eq_true rfl) (Nat.le_of_ble_eq_true rfl) (Nat.le_of_ble_eq_true rfl) dX2_init_7 (fun u1 H hP hD hS => ?_)
  have hP : va_P g.1 vwCl ((h0, .inr (2, [.null, .null, .null, .null, .null, .int 0])) :: [(u1, ct_I g 40 ct_z)]) H := hP
  have hD : va_D A ((h0, .inr (2, [.null, .null, .null, .null, .null, .int 0])) :: [(u1, ct_I g 40 ct_z)]) := hD
  refine va_putF (D := g.1) (ci := 2) (v := .ref u1) (ty := .array .int) (C := RX2) (T := TX2) (N := 6) hx hb hts ct_i2 tyX2 tyX2_ok nmX2 hown hK hP hD hS 0 rfl rfl 0 (by decide) (hts (.fieldLink RX2 9 "ClipBureau$Press" "stems" "[I") (by decide +kernel)) (fun _ h9 => h9) rfl hin rfl (by decide +kernel) rfl rfl (Nat.le_of_ble_eq_true rfl) dX2_init_9 (fun H locs hP hD hS => ?_)
  have hP : va_P g.1 vwCl ((h0, .inr (2, [.ref u1, .null, .null, .null, .null, .int 0])) :: [(u1, ct_I g 40 ct_z)]) H := hP
  have hD : va_D A ((h0, .inr (2, [.ref u1, .null, .null, .null, .null, .int 0])) :: [(u1, ct_I g 40 ct_z)]) := hD
  refine lv_aload_n hx hb dX2_init_12 rfl (lv_at hl 0 rfl) ?_
  refine lv_bipush (v := nI 16) hx hb dX2_init_13 (by decide +kernel) ?_
  refine lv_bipush (v := nI 12) hx hb dX2_init_15 (by decide +kernel) ?_
  refine ct_newM hx hb hown (hts (.classLink RX2 15 "[[I") (by decide +kernel)) hO (hts (.arrayClass .int) (by decide +kernel)) hK hP hD hS hA 16 12 rfl rfl (by decide) (by decide) (Nat.le_of_ble_eq_true rfl) (Nat.le_of_ble_eq_true rfl) (Nat.le_of_ble_eq_true rfl) (Nat.le_of_ble_eq_true rfl) (Nat.le_of_ble_eq_true rfl) dX2_init_17 (fun u2 r1 H hP hD hS => ?_)
  have hP : va_P g.1 vwCl ((h0, .inr (2, [.ref u1, .null, .null, .null, .null, .int 0])) :: (u1, ct_I g 40 ct_z) :: ((u2, ct_R g 16 r1) :: ct_rows g 16 12 r1)) H := hP
  have hD : va_D A ((h0, .inr (2, [.ref u1, .null, .null, .null, .null, .int 0])) :: (u1, ct_I g 40 ct_z) :: ((u2, ct_R g 16 r1) :: ct_rows g 16 12 r1)) := hD
  refine va_putF (D := g.1) (ci := 2) (v := .ref u2) (ty := .array (.array .int)) (C := RX2) (T := TX2) (N := 6) hx hb hts ct_i2 tyX2 tyX2_ok nmX2 hown hK hP hD hS 0 rfl rfl 1 (by decide) (hts (.fieldLink RX2 17 "ClipBureau$Press" "words" "[[I") (by decide +kernel)) (fun _ h9 => h9) rfl hin rfl (by decide +kernel) rfl rfl (Nat.le_of_ble_eq_true rfl) dX2_init_21 (fun H locs hP hD hS => ?_)
  have hP : va_P g.1 vwCl ((h0, .inr (2, [.ref u1, .ref u2, .null, .null, .null, .int 0])) :: (u1, ct_I g 40 ct_z) :: ((u2, ct_R g 16 r1) :: ct_rows g 16 12 r1)) H := hP
  have hD : va_D A ((h0, .inr (2, [.ref u1, .ref u2, .null, .null, .null, .int 0])) :: (u1, ct_I g 40 ct_z) :: ((u2, ct_R g 16 r1) :: ct_rows g 16 12 r1)) := hD
  refine lv_aload_n hx hb dX2_init_24 rfl (lv_at hl 0 rfl) ?_
  refine lv_bipush (v := nI 16) hx hb dX2_init_25 (by decide +kernel) ?_
  refine ct_newI hx hb (hts (.arrayClass .int) (by decide +kernel)) hK hP hD hS hA 16 rfl (by decide) (Nat.le_of_ble_eq_true rfl) (Nat.le_of_ble_eq_true rfl) (Nat.le_of_ble_eq_true rfl) dX2_init_27 (fun u3 H hP hD hS => ?_)
  have hP : va_P g.1 vwCl ((h0, .inr (2, [.ref u1, .ref u2, .null, .null, .null, .int 0])) :: (u1, ct_I g 40 ct_z) :: (((u2, ct_R g 16 r1) :: ct_rows g 16 12 r1) ++ [(u3, ct_I g 16 ct_z)])) H := hP
  have hD : va_D A ((h0, .inr (2, [.ref u1, .ref u2, .null, .null, .null, .int 0])) :: (u1, ct_I g 40 ct_z) :: (((u2, ct_R g 16 r1) :: ct_rows g 16 12 r1) ++ [(u3, ct_I g 16 ct_z)])) := hD
  refine va_putF (D := g.1) (ci := 2) (v := .ref u3) (ty := .array .int) (C := RX2) (T := TX2) (N := 6) hx hb hts ct_i2 tyX2 tyX2_ok nmX2 hown hK hP hD hS 0 rfl rfl 2 (by decide) (hts (.fieldLink RX2 20 "ClipBureau$Press" "lengths" "[I") (by decide +kernel)) (fun _ h9 => h9) rfl hin rfl (by decide +kernel) rfl rfl (Nat.le_of_ble_eq_true rfl) dX2_init_29 (fun H locs hP hD hS => ?_)
  have hP : va_P g.1 vwCl ((h0, .inr (2, [.ref u1, .ref u2, .ref u3, .null, .null, .int 0])) :: (u1, ct_I g 40 ct_z) :: (((u2, ct_R g 16 r1) :: ct_rows g 16 12 r1) ++ [(u3, ct_I g 16 ct_z)])) H := hP
  have hD : va_D A ((h0, .inr (2, [.ref u1, .ref u2, .ref u3, .null, .null, .int 0])) :: (u1, ct_I g 40 ct_z) :: (((u2, ct_R g 16 r1) :: ct_rows g 16 12 r1) ++ [(u3, ct_I g 16 ct_z)])) := hD
  refine lv_aload_n hx hb dX2_init_32 rfl (lv_at hl 0 rfl) ?_
  refine lv_bipush (v := nI 16) hx hb dX2_init_33 (by decide +kernel) ?_
  refine lv_bipush (v := nI 20) hx hb dX2_init_35 (by decide +kernel) ?_
  refine ct_newM hx hb hown (hts (.classLink RX2 15 "[[I") (by decide +kernel)) hO (hts (.arrayClass .int) (by decide +kernel)) hK hP hD hS hA 16 20 rfl rfl (by decide) (by decide) (Nat.le_of_ble_eq_true rfl) (Nat.le_of_ble_eq_true rfl) (Nat.le_of_ble_eq_true rfl) (Nat.le_of_ble_eq_true rfl) (Nat.le_of_ble_eq_true rfl) dX2_init_37 (fun u4 r2 H hP hD hS => ?_)
  have hP : va_P g.1 vwCl ((h0, .inr (2, [.ref u1, .ref u2, .ref u3, .null, .null, .int 0])) :: (u1, ct_I g 40 ct_z) :: ((((u2, ct_R g 16 r1) :: ct_rows g 16 12 r1) ++ [(u3, ct_I g 16 ct_z)]) ++ ((u4, ct_R g 16 r2) :: ct_rows g 16 20 r2))) H := hP
  have hD : va_D A ((h0, .inr (2, [.ref u1, .ref u2, .ref u3, .null, .null, .int 0])) :: (u1, ct_I g 40 ct_z) :: ((((u2, ct_R g 16 r1) :: ct_rows g 16 12 r1) ++ [(u3, ct_I g 16 ct_z)]) ++ ((u4, ct_R g 16 r2) :: ct_rows g 16 20 r2))) := hD
  refine va_putF (D := g.1) (ci := 2) (v := .ref u4) (ty := .array (.array .int)) (C := RX2) (T := TX2) (N := 6) hx hb hts ct_i2 tyX2 tyX2_ok nmX2 hown hK hP hD hS 0 rfl rfl 3 (by decide) (hts (.fieldLink RX2 23 "ClipBureau$Press" "times" "[[I") (by decide +kernel)) (fun _ h9 => h9) rfl hin rfl (by decide +kernel) rfl rfl (Nat.le_of_ble_eq_true rfl) dX2_init_41 (fun H locs hP hD hS => ?_)
  have hP : va_P g.1 vwCl ((h0, .inr (2, [.ref u1, .ref u2, .ref u3, .ref u4, .null, .int 0])) :: (u1, ct_I g 40 ct_z) :: ((((u2, ct_R g 16 r1) :: ct_rows g 16 12 r1) ++ [(u3, ct_I g 16 ct_z)]) ++ ((u4, ct_R g 16 r2) :: ct_rows g 16 20 r2))) H := hP
  have hD : va_D A ((h0, .inr (2, [.ref u1, .ref u2, .ref u3, .ref u4, .null, .int 0])) :: (u1, ct_I g 40 ct_z) :: ((((u2, ct_R g 16 r1) :: ct_rows g 16 12 r1) ++ [(u3, ct_I g 16 ct_z)]) ++ ((u4, ct_R g 16 r2) :: ct_rows g 16 20 r2))) := hD
  refine lv_aload_n hx hb dX2_init_44 rfl (lv_at hl 0 rfl) ?_
  refine lv_bipush (v := nI 20) hx hb dX2_init_45 (by decide +kernel) ?_
  refine ct_newI hx hb (hts (.arrayClass .int) (by decide +kernel)) hK hP hD hS hA 20 rfl (by decide) (Nat.le_of_ble_eq_true rfl) (Nat.le_of_ble_eq_true rfl) (Nat.le_of_ble_eq_true rfl) dX2_init_47 (fun u5 H hP hD hS => ?_)
  have hP : va_P g.1 vwCl ((h0, .inr (2, [.ref u1, .ref u2, .ref u3, .ref u4, .null, .int 0])) :: (u1, ct_I g 40 ct_z) :: (((((u2, ct_R g 16 r1) :: ct_rows g 16 12 r1) ++ [(u3, ct_I g 16 ct_z)]) ++ ((u4, ct_R g 16 r2) :: ct_rows g 16 20 r2)) ++ [(u5, ct_I g 20 ct_z)])) H := hP
  have hD : va_D A ((h0, .inr (2, [.ref u1, .ref u2, .ref u3, .ref u4, .null, .int 0])) :: (u1, ct_I g 40 ct_z) :: (((((u2, ct_R g 16 r1) :: ct_rows g 16 12 r1) ++ [(u3, ct_I g 16 ct_z)]) ++ ((u4, ct_R g 16 r2) :: ct_rows g 16 20 r2)) ++ [(u5, ct_I g 20 ct_z)])) := hD
  refine va_putF (D := g.1) (ci := 2) (v := .ref u5) (ty := .array .int) (C := RX2) (T := TX2) (N := 6) hx hb hts ct_i2 tyX2 tyX2_ok nmX2 hown hK hP hD hS 0 rfl rfl 4 (by decide) (hts (.fieldLink RX2 26 "ClipBureau$Press" "holders" "[I") (by decide +kernel)) (fun _ h9 => h9) rfl hin rfl (by decide +kernel) rfl rfl (Nat.le_of_ble_eq_true rfl) dX2_init_49 (fun H locs hP hD hS => ?_)
  have hP : va_P g.1 vwCl ((h0, .inr (2, [.ref u1, .ref u2, .ref u3, .ref u4, .ref u5, .int 0])) :: (u1, ct_I g 40 ct_z) :: (((((u2, ct_R g 16 r1) :: ct_rows g 16 12 r1) ++ [(u3, ct_I g 16 ct_z)]) ++ ((u4, ct_R g 16 r2) :: ct_rows g 16 20 r2)) ++ [(u5, ct_I g 20 ct_z)])) H := hP
  have hD : va_D A ((h0, .inr (2, [.ref u1, .ref u2, .ref u3, .ref u4, .ref u5, .int 0])) :: (u1, ct_I g 40 ct_z) :: (((((u2, ct_R g 16 r1) :: ct_rows g 16 12 r1) ++ [(u3, ct_I g 16 ct_z)]) ++ ((u4, ct_R g 16 r2) :: ct_rows g 16 20 r2)) ++ [(u5, ct_I g 20 ct_z)])) := hD
  refine lv_iconst (v := nI 0) hx hb dX2_init_52 (by decide +kernel) ?_
  refine lv_istore_n (lv' := [(1, .int (nI 0)), (0, .ref h0)]) hx hb dX2_init_53 rfl hl (by decide) rfl (fun ls hl => ?_)
  refine ct_loop2 (A := A) (H0 := s.heap) hx hb hown hts hK (fun H locs ls hP hD hS => ?_) 41 0 _ _ ls (by omega) (by omega) (by rw [ct_st_0]; exact hP) (by rw [ct_st_0]; exact hD) hS (lv_sub hl [1, 0] rfl)
  refine W.widen (k := 37) (n := 620) (Nat.le_of_ble_eq_true rfl) (Nat.le_of_ble_eq_true rfl) ?_
  exact W.vret hx hb hr (fun t ht hW => ⟨⟨((u1, u2, u3, u4, u5), r1, r2), rfl, trivial, by rw [ht]; exact hP, hD⟩, hS.F ht⟩) hS.2.2 dX2_init_75
