/-! One instruction of the deep semantics, over the machine. -/
section DPT
variable {p : Program} {l : Launch} {e : Env} {R : Room} {s : State} {m : MethodId} {args : Array Value} {below : List Frame} {meth : Method} {c : Code} {Qm : State → Prop}
variable {g : dp_G} {X : dp_X} {b : Nat} {A : Nat → Prop} {y d : Nat} {ad : Nat → Nat} {Q : dp_Q}
theorem dp_nat_of {o i : Nat} {f : Option Nat → Prop} (hn : ¬ f none) (h : f (dp_nat o i)) : ∃ z, (o, i, z) ∈ dp_nl ∧ f (some z) := by
  unfold dp_nat at h
  cases hz : dp_lo dp_nl o i with
  | none => rw [hz] at h; exact absurd h hn
  | some z =>
    rw [hz] at h
    exact ⟨z, dp_lo_in _ _ _ _ hz, h⟩
theorem dp_natw_ok (C : dp_Cx p l R s m args c g X b A y d) {i pc n cc q : Nat} {L : dp_L} {st : List Value} {M : dp_M} {o : dp_O} (hd : decode (dp_by y) pc = .ok (.invokestatic i, 3))
    (h : dp_natw y (dp_KW p l e R s m args below meth c Qm g A (dp_mL y) ad) pc L st n cc q M o (dp_nat (dp_ow y) i)) : dp_KW p l e R s m args below meth c Qm g A (dp_mL y) ad pc L st n cc q M o := by
  obtain ⟨z, hmem, h⟩ := dp_nat_of (f := fun z => dp_natw y (dp_KW p l e R s m args below meth c Qm g A (dp_mL y) ad) pc L st n cc q M o z) (fun h => h) h
  obtain ⟨hx, hb, hml, hown, hts, htr, htab, hd1, hfr, hlo, hRc, hRs, hy, hG⟩ := C
  intro h0 ds H locs ls h1 h3 h4 h5 h6
  have hw := hts _ (dp_wd_nat hmem)
  unfold dp_linkN at hw
  have hml' : c.maxLocals = ls.size := by rw [hml, h3.1]
  have hfr1 : 1 ≤ R.frames := Nat.le_trans hd1 hfr
  have hloc : ∀ (r : List Value) (k : Nat), r.length ≤ 4 → k ≤ 80 → ((r.map (dp_cv ad)).map fun v => v.category).sum + k ≤ R.locals := fun r k hr hk => by
    have := dp_sum_le ad r
    omega
  by_cases hz0 : z = 200
  · subst hz0
    obtain ⟨v, r, rfl, k1⟩ := dp_pi_of h
    obtain ⟨u, r, rfl, hr, hcc, hqq, k2⟩ := dp_pi_of k1
    exact va_mmin hx hb hml' hown hw (hts _ (dp_wd_x0 0 rfl)) (hts _ (dp_wd_x0 1 rfl)) (hts _ (dp_wd_x0 2 rfl)) hfr1 (hloc r 13 hr (by omega)) (by rw [hRc]; exact hcc) (by rw [hRs]; exact hqq) hd (k2 h0 ds H locs ls h1 h3 h4 h5 h6)
  by_cases hz1 : z = 201
  · subst hz1
    obtain ⟨v, r, rfl, k1⟩ := dp_pi_of h
    obtain ⟨u, r, rfl, hr, hcc, hqq, k2⟩ := dp_pi_of k1
    exact va_mmax hx hb hml' hown hw (hts _ (dp_wd_x0 3 rfl)) (hts _ (dp_wd_x0 1 rfl)) (hts _ (dp_wd_x0 4 rfl)) hfr1 (hloc r 13 hr (by omega)) (by rw [hRc]; exact hcc) (by rw [hRs]; exact hqq) hd (k2 h0 ds H locs ls h1 h3 h4 h5 h6)
  by_cases hz2 : z = 202
  · subst hz2
    obtain ⟨k, r, rfl, k1⟩ := dp_pi_of h
    obtain ⟨dp, r, rfl, k2⟩ := dp_pi_of k1
    obtain ⟨a2, r, rfl, k3⟩ := dp_pr_of k2
    obtain ⟨sp, r, rfl, k4⟩ := dp_pi_of k3
    obtain ⟨a1, r, rfl, hr, q1, q2, q3, q4, q5, q6, q7, q8, q9, k5⟩ := dp_pr_of k4
    rw [h0] at q3 q4
    exact va_copyi hx hb hml' hown hw (hts _ (dp_wd_x0 5 rfl)) (hts _ (dp_wd_x0 6 rfl)) (hts _ (dp_wd_x0 7 rfl)) hG.1 h4 h5 h6 (dp_pos a1) (dp_pos a2) 0 0 (dp_wl_A q3 q1) (dp_wl_A q4 q2) rfl rfl rfl q5 q6 q7 q8 q9 (fun _ _ => rfl) hfr1 (hloc r _ hr (by decide)) hd (fun H1 locs1 g1 g2 g3 => by
      rw [dp_set_A q4 q2] at g1 g2
      exact k5 h0 ds H1 locs1 ls h1 h3 g1 g2 g3)
  exfalso
  unfold dp_natw at h
  split at h
  · rename_i hq; exact hz0 (Option.some.inj hq)
  · rename_i hq; exact hz1 (Option.some.inj hq)
  · rename_i hq; exact hz2 (Option.some.inj hq)
  · exact h
theorem dp_aald (hx : p.tables.exec = Jvm.exec) {cc : ByteArray} (hb : c.code = cc) {pc : Nat} {ls : Array Slot} {rest : List Value} {D : va_G} {cl : List vw_C} {a : Nat} {tys : List (ClassId × FieldType)} {ws : va_W} {H : Heap} {locs : List Loc} {cells slots : Nat} (hK : va_K D cl tys s) (hP : va_P D cl ws H) (q0 t0 : Nat) {cA : ClassId} {n : Nat} {f : Nat → Option Nat} (ha : ws[q0]? = some (a, .inl (cA, n, .inr (.inr (.inr (.inr f)))))) (ht : tys[t0]? = some (cA, .array .int)) {i : Int32} (hin : vp_in i n) (hdg : decode cc pc = .ok (.aaload, 1))
    (kk : W p l e R s m args below meth c H locs cells slots Qm (F0 m (pc + 1) ls (va_rf (f i.toNatClampNeg) :: rest))) : W p l e R s m args below meth c H locs cells slots Qm (F0 m pc ls (.int i :: .ref a :: rest)) := by
  have hlt : i.toNatClampNeg < n := Nat.not_le.mp fun q => hin (Or.inr q)
  exact W.aald (v := va_rf (f i.toNatClampNeg)) (ty := .array .int) hx hb (hP q0 _ ha) ((hK.2 t0 _ ht).1 n (fun j => va_rf (f j))) rfl (fun q => by cases q) (by show ¬ (i < 0 ∨ (arrV _ _ _).slots.size ≤ _); rw [arrV_size]; exact hin) (by show (arrV _ _ _).slots[_]? = _; rw [arrV_read _ _ hlt]) rfl rfl hdg kk
/-- an int array into a row of int arrays -/
theorem dp_aast (hx : p.tables.exec = Jvm.exec) {cc : ByteArray} (hb : c.code = cc) {pc : Nat} {ls : Array Slot} {rest : List Value} {D : va_G} {cl : List vw_C} {a v : Nat} {tys : List (ClassId × FieldType)} {ws : va_W} {H : Heap} {locs : List Loc} {cells slots : Nat} {B : Nat → Prop} {H0 : Heap} (hK : va_K D cl tys s) (hP : va_P D cl ws H) (hD : va_D B ws) (hS : va_S B H0 H locs) (hO : va_AOA .int s) (q0 t0 q1 t1 : Nat) {cA cI : ClassId} {n n1 : Nat} {f : Nat → Option Nat} {f1 : Nat → Int32} (ha : ws[q0]? = some (a, .inl (cA, n, .inr (.inr (.inr (.inr f)))))) (ht : tys[t0]? = some (cA, .array .int)) (hv : ws[q1]? = some (v, .inl (cI, n1, .inl f1))) (ht1 : tys[t1]? = some (cI, .int)) {i : Int32} (hin : vp_in i n) (hdg : decode cc pc = .ok (.aastore, 1))
    (kk : ∀ (H1 : Heap) (locs1 : List Loc), va_P D cl (ws.set q0 (a, .inl (cA, n, .inr (.inr (.inr (.inr (va_up f i.toNatClampNeg (some v)))))))) H1 → va_D B (ws.set q0 (a, .inl (cA, n, .inr (.inr (.inr (.inr (va_up f i.toNatClampNeg (some v)))))))) → va_S B H0 H1 locs1 → W p l e R s m args below meth c H1 locs1 cells slots Qm (F0 m (pc + 1) ls rest)) : W p l e R s m args below meth c H locs cells slots Qm (F0 m pc ls (.ref v :: .int i :: .ref a :: rest)) := by
  have hlt : i.toNatClampNeg < n := Nat.not_le.mp fun q => hin (Or.inr q)
  have h0 : ¬ i < 0 := fun q => hin (Or.inl q)
  obtain ⟨comp, c9, k9, o1, -, o3, o4, o5⟩ := ct_aoas hO
  have r0 : s.vm.findClass ("[" ++ (FieldType.array .int).toString) = some cA := (hK.2 t0 _ ht).2
  have r1 : s.vm.findClass ("[" ++ (FieldType.int).toString) = some cI := (hK.2 t1 _ ht1).2
  have e0 : c9 = cA := Option.some.inj (o5.symm.trans r0)
  subst e0
  have e1 : comp = cI := Option.some.inj (o1.symm.trans (show s.vm.findClass (FieldType.array .int).toString = some cI from r1))
  subst e1
  obtain ⟨-, kI, hkI, -⟩ := (hK.2 t1 _ ht1).1 n1 (fun j => .int (f1 j))
  refine W.aast (t := .array .int) hx hb (hP q0 _ ha) (fun q h => by cases h) (fun h => by cases h) o3 o4 rfl hkI ⟨h0, by show _ < (arrV _ _ _).slots.size; rw [arrV_size]; exact hlt⟩ (hP q1 _ hv) (fun q h => by cases h) hkI (by show s.vm.assignable comp comp = true; unfold Vm.assignable Vm.assignableAux; rw [beq_self_eq_true, Bool.true_or]) rfl rfl hdg fun H1 e z oq => ?_
  refine kk H1 _ (hP.set hD ha ?_ oq) (hD.set ha) (hS.put z oq (hD.2 q0 _ ha))
  show H1[a]? = some (vp_cell _ _)
  rw [e]
  rw [vp_cell_q, vp_cell_q, arrV_store]
  congr 2
  funext q
  by_cases hq : q = i.toNatClampNeg
  · subst hq
    simp [updV, va_up, va_rf]
  · simp [updV, va_up, hq]
/-- a row of int arrays is made -/
theorem dp_newA (hx : p.tables.exec = Jvm.exec) {cc : ByteArray} (hb : c.code = cc) {own : String} {index : Nat} (hown : s.vm.findClass own = some m.cls) (hclink : (Cond.classLink own index "[I").before args s = true) (hO : va_AOA .int s) {pc : Nat} {ls : Array Slot} {rest : List Value} {D : va_G} {cl : List vw_C} {tys : List (ClassId × FieldType)} {ws : va_W} {H : Heap} {locs : List Loc} {cells slots : Nat} {B : Nat → Prop} {H0 : Heap} (hK : va_K D cl tys s) (hP : va_P D cl ws H) (hD : va_D B ws) (hS : va_S B H0 H locs) (hA : ∀ q, H0.size ≤ q → B q) (t0 : Nat) {cA : ClassId} (ht : tys[t0]? = some (cA, .array .int))
    {n : Int32} {N' : Nat} (hn : ¬ n < 0) (hN : n.toNatClampNeg = N') (hbytes : N' * 4 ≤ 536870912) (hcells : cells + 1 ≤ R.cells) (hslots : slots + N' ≤ R.slots) (hdg : decode cc pc = .ok (.anewarray index, 3))
    (kk : ∀ (q : Nat) (H1 : Heap), va_P D cl (ws ++ [(q, .inl (cA, N', .inr (.inr (.inr (.inr (fun _ => none))))))]) H1 → va_D B (ws ++ [(q, .inl (cA, N', .inr (.inr (.inr (.inr (fun _ => none))))))]) → va_S B H0 H1 locs →
      W p l e R s m args below meth c H1 locs (cells + 1) (slots + N') Qm (F0 m (pc + 3) ls (.ref q :: rest))) : W p l e R s m args below meth c H locs cells slots Qm (F0 m pc ls (.int n :: rest)) := by
  subst hN
  refine W.anewA (t := .int) hx hb hown hclink (va_AOA.use hO) rfl hdg rfl hn hbytes hcells hslots fun cA' kA comp f1 f2 f3 f4 => ?_
  have r0 : s.vm.findClass ("[" ++ (FieldType.array .int).toString) = some cA := (hK.2 t0 _ ht).2
  have e0 : cA' = cA := Option.some.inj (f1.symm.trans r0)
  subst e0
  generalize hH1 : H.push ({ cls := cA', slots := Array.replicate n.toNatClampNeg .null, vm := .none } : Cell) = H1
  have z1 : H1.size = H.size + 1 := by rw [← hH1, Array.size_push]
  have e1 : H1[H.size]? = some (arrV cA' n.toNatClampNeg (fun _ => .null)) := by rw [← hH1, Array.getElem?_push_size, ← arrV_new]
  have o1 : ∀ q : Nat, q < H.size → H1[q]? = H[q]? := fun q hq => by rw [← hH1, Array.getElem?_push, if_neg (Nat.ne_of_lt hq)]
  have hk : ∀ (k : Nat) (x : Nat × va_E), ws[k]? = some x → H1[x.1]? = H[x.1]? := fun k x hx => o1 x.1 ((hP k x hx).lt)
  refine kk H.size H1 ((hP.kept hk).app (fun k x hx => ?_)) (hD.push hP rfl (hA _ hS.1)) ⟨Nat.le_trans hS.1 (by omega), fun x h1 h2 => (o1 x (Nat.lt_of_lt_of_le h1 hS.1)).trans (hS.2.1 x h1 h2), hS.2.2⟩
  have hz : k < 1 := (List.getElem?_eq_some_iff.mp hx).1
  rw [show k = 0 by omega] at hx
  cases hx
  show H1[H.size]? = some (vp_cell _ _)
  rw [vp_cell_q]
  exact e1
theorem dp_clT {ci : Nat} (hci : ci < 6) : vwCl[ci]? = some (vwCl.getD ci (RX0, TX0, 5)) := by
  rw [List.getD_eq_getElem?_getD, List.getElem?_eq_getElem (show ci < vwCl.length from hci)]
  rfl
/-- the facts of a class's fields -/
theorem dp_clF {ci : Nat} {q : vw_C} (hq : vwCl[ci]? = some q) : ∃ ty0 : Nat → FieldType, (∀ k, k < q.2.2 → parseFieldDescriptor (q.2.1 k).2.2.1 = some (ty0 k)) ∧ (∀ a, a < q.2.2 → ∀ b, b < q.2.2 → a ≠ b → (q.2.1 a).2.1 ≠ (q.2.1 b).2.1) := by
  match ci, hq with
  | 0, hq => cases hq; exact ⟨tyX0, tyX0_ok, nmX0⟩
  | 1, hq => cases hq; exact ⟨tyX1, tyX1_ok, nmX1⟩
  | 2, hq => cases hq; exact ⟨tyX2, tyX2_ok, nmX2⟩
  | 3, hq => cases hq; exact ⟨tyX3, tyX3_ok, nmX3⟩
  | 4, hq => cases hq; exact ⟨tyX4, tyX4_ok, nmX4⟩
  | 5, hq => cases hq; exact ⟨tyX5, tyX5_ok, nmX5⟩
  | c + 6, hq => simp [vwCl] at hq
theorem dp_objint {M : dp_M} {h ci k : Nat} {fs : List Value} {w : Int32} (hq : dp_obj M h = some (ci, fs)) (hk : dp_gtv fs k = some (.int w)) : ci < 6 ∧ k < (vwCl.getD ci (RX0, TX0, 5)).2.2 ∧ ((vwCl.getD ci (RX0, TX0, 5)).2.1 k).2.2.2 = false ∧ parseFieldDescriptor ((vwCl.getD ci (RX0, TX0, 5)).2.1 k).2.2.1 = some .int ∧ k < fs.length := by
  rcases dp_isA_or h with hA | rfl | rfl | rfl | rfl | rfl | rfl | rfl | rfl | ⟨h1, h2⟩
  · rw [dp_obj_A hA] at hq; cases hq
  · cases hq
    match k, hk with
    | 0, hk => cases hk
    | 1, hk => cases hk
    | 2, hk => cases hk
    | 3, hk => cases hk
    | 4, hk => cases hk
    | k + 5, hk => cases hk
  · cases hq
    match k, hk with
    | 0, hk => cases hk
    | 1, hk => cases hk
    | 2, hk => cases hk
    | 3, hk => cases hk
    | 4, hk => cases hk
    | 5, hk => exact ⟨by decide, by decide, rfl, tyX2_ok 5 (by decide), by simp⟩
    | k + 6, hk => cases hk
  · cases hq
    match k, hk with
    | 0, hk => cases hk
    | 1, hk => cases hk
    | 2, hk => cases hk
    | 3, hk => exact ⟨by decide, by decide, rfl, tyX1_ok 3 (by decide), by simp⟩
    | k + 4, hk => cases hk
  · cases hq
    match k, hk with
    | 0, hk => cases hk
    | 1, hk => cases hk
    | 2, hk => cases hk
    | 3, hk => cases hk
    | 4, hk => exact ⟨by decide, by decide, rfl, tyX0_ok 4 (by decide), by simp⟩
    | k + 5, hk => cases hk
  · cases hq
    match k, hk with
    | 0, hk => cases hk
    | 1, hk => cases hk
    | 2, hk => cases hk
    | 3, hk => cases hk
    | 4, hk => exact ⟨by decide, by decide, rfl, tyX0_ok 4 (by decide), by simp⟩
    | k + 5, hk => cases hk
  · cases hq
  · cases hq
  · cases hq
  · rw [dp_obj_m h1] at hq; cases hq
/-- the fields of what the law makes -/
theorem dp_lawF : ∀ ci, ci < 6 → (ci = 4 ∨ ci = 5) → ∀ k, k < 5 → ((vwCl.getD ci (RX0, TX0, 5)).2.1 k).2.2.2 = false ∧ (∃ ty, parseFieldDescriptor ((vwCl.getD ci (RX0, TX0, 5)).2.1 k).2.2.1 = some ty ∧ (if dp_ft ci k then ty = .int else ty.isReference = true)) ∧ (vwCl.getD ci (RX0, TX0, 5)).2.2 = 5 := by
  intro ci _ h4 k hk
  rcases h4 with rfl | rfl <;> rcases (by omega : k = 0 ∨ k = 1 ∨ k = 2 ∨ k = 3 ∨ k = 4) with rfl | rfl | rfl | rfl | rfl
  · exact ⟨rfl, ⟨_, tyX4_ok 0 (by decide), rfl⟩, rfl⟩
  · exact ⟨rfl, ⟨_, tyX4_ok 1 (by decide), rfl⟩, rfl⟩
  · exact ⟨rfl, ⟨_, tyX4_ok 2 (by decide), rfl⟩, rfl⟩
  · exact ⟨rfl, ⟨_, tyX4_ok 3 (by decide), rfl⟩, rfl⟩
  · exact ⟨rfl, ⟨_, tyX4_ok 4 (by decide), rfl⟩, rfl⟩
  · exact ⟨rfl, ⟨_, tyX5_ok 0 (by decide), rfl⟩, rfl⟩
  · exact ⟨rfl, ⟨_, tyX5_ok 1 (by decide), rfl⟩, rfl⟩
  · exact ⟨rfl, ⟨_, tyX5_ok 2 (by decide), rfl⟩, rfl⟩
  · exact ⟨rfl, ⟨_, tyX5_ok 3 (by decide), rfl⟩, rfl⟩
  · exact ⟨rfl, ⟨_, tyX5_ok 4 (by decide), rfl⟩, rfl⟩
/-- a value fits its field -/
theorem dp_fvn {b9 : Bool} {v : Value} {ty : FieldType} {ad9 : Nat → Nat} (hv : dp_fv b9 v) (hty : if b9 then ty = .int else ty.isReference = true) : narrow ty (dp_cv ad9 v) = dp_cv ad9 v ∧ fits ty (dp_cv ad9 v) = true := by
  cases v with
  | int x =>
    have hb9 : b9 = true := hv
    subst hb9
    have hty : ty = .int := hty
    subst hty
    exact ⟨rfl, rfl⟩
  | ref x =>
    have hb9 : b9 = false := hv
    subst hb9
    have hty : ty.isReference = true := hty
    cases ty <;> first | exact ⟨rfl, rfl⟩ | cases hty
  | _ => exact hv.elim
end DPT
