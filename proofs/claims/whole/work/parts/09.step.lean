/-! One instruction of the deep semantics, over the machine. -/
section DPT
variable {p : Program} {l : Launch} {e : Env} {R : Room} {s : State} {m : MethodId} {args : Array Value} {below : List Frame} {meth : Method} {c : Code} {Qm : State → Prop}
variable {g : dp_G} {X : dp_X} {b : Nat} {A : Nat → Prop} {y d n0 : Nat} {ad0 : Nat → Nat} {Q : dp_Q}
theorem dp_nat_of {o i : Nat} {f : Option Nat → Prop} (hn : ¬ f none) (h : f (dp_nat o i)) : ∃ z, (o, i, z) ∈ dp_nl ∧ f (some z) := by
  unfold dp_nat at h
  cases hz : dp_lo dp_nl o i with
  | none => rw [hz] at h; exact absurd h hn
  | some z =>
    rw [hz] at h
    exact ⟨z, dp_lo_in _ _ _ _ hz, h⟩
theorem dp_natw_ok (C : dp_Cx p l R s m args c g X b A y d) {i pc n cc q : Nat} {L : dp_L} {st : List Value} {M : dp_M} {o : Int64} (hd : decode (dp_by y) pc = .ok (.invokestatic i, 3))
    (h : dp_natw y (dp_KW p l e R s m args below meth c Qm g b A (dp_mL y) n0 ad0) pc L st n cc q M o (dp_nat (dp_ow y) i)) : dp_KW p l e R s m args below meth c Qm g b A (dp_mL y) n0 ad0 pc L st n cc q M o := by
  obtain ⟨z, hmem, h⟩ := dp_nat_of (f := fun z => dp_natw y (dp_KW p l e R s m args below meth c Qm g b A (dp_mL y) n0 ad0) pc L st n cc q M o z) (fun h => h) h
  obtain ⟨hx, hb, hml, hown, hts, htr, htab, hd1, hfr, hlo, hRc, hRs, hy, hG⟩ := C
  intro h0 ad H locs ls h1 h2 h3 h4 h5 h6
  have hw := hts _ (dp_wd_nat hmem)
  unfold dp_linkN at hw
  have hml' : c.maxLocals = ls.size := by rw [hml, h3.1]
  have hfr1 : 1 ≤ R.frames := Nat.le_trans hd1 hfr
  have hloc : ∀ (r : List Value) (k : Nat), r.length ≤ 4 → k ≤ 80 → ((r.map (dp_cv ad)).map fun v => v.category).sum + k ≤ R.locals := fun r k hr hk => by
    have := dp_sum_le ad r
    omega
  by_cases hz0 : z = 200
  · subst hz0
    obtain ⟨v, r, rfl, k1⟩ := dp_pi_of h
    obtain ⟨u, r, rfl, hr, hcc, hqq, k2⟩ := dp_pi_of k1
    exact va_mmin hx hb hml' hown hw (hts _ (dp_wd_x0 0 rfl)) (hts _ (dp_wd_x0 1 rfl)) (hts _ (dp_wd_x0 2 rfl)) hfr1 (hloc r 13 hr (by omega)) (by rw [hRc]; exact hcc) (by rw [hRs]; exact hqq) hd (k2 h0 ad H locs ls h1 h2 h3 h4 h5 h6)
  by_cases hz1 : z = 201
  · subst hz1
    obtain ⟨v, r, rfl, k1⟩ := dp_pi_of h
    obtain ⟨u, r, rfl, hr, hcc, hqq, k2⟩ := dp_pi_of k1
    exact va_mmax hx hb hml' hown hw (hts _ (dp_wd_x0 3 rfl)) (hts _ (dp_wd_x0 1 rfl)) (hts _ (dp_wd_x0 4 rfl)) hfr1 (hloc r 13 hr (by omega)) (by rw [hRc]; exact hcc) (by rw [hRs]; exact hqq) hd (k2 h0 ad H locs ls h1 h2 h3 h4 h5 h6)
  by_cases hz2 : z = 202
  · subst hz2
    obtain ⟨k, r, rfl, k1⟩ := dp_pi_of h
    obtain ⟨dp, r, rfl, k2⟩ := dp_pi_of k1
    obtain ⟨a2, r, rfl, k3⟩ := dp_pr_of k2
    obtain ⟨sp, r, rfl, k4⟩ := dp_pi_of k3
    obtain ⟨a1, r, rfl, hr, q1, q2, q3, q4, q5, q6, q7, q8, q9, k5⟩ := dp_pr_of k4
    exact va_copyi hx hb hml' hown hw (hts _ (dp_wd_x0 5 rfl)) (hts _ (dp_wd_x0 6 rfl)) (hts _ (dp_wd_x0 7 rfl)) hG.1 h4 h5 h6 a1 a2 0 0 (dp_wl_A q3 q1) (dp_wl_A q4 q2) rfl rfl rfl q5 q6 q7 q8 q9 (fun _ _ => rfl) hfr1 (hloc r _ hr (by decide)) hd (fun H1 locs1 g1 g2 g3 => by
      rw [dp_set_A q2] at g1 g2
      exact k5 h0 ad H1 locs1 ls h1 h2 h3 g1 g2 g3)
  exfalso
  unfold dp_natw at h
  split at h
  · rename_i hq; exact hz0 (Option.some.inj hq)
  · rename_i hq; exact hz1 (Option.some.inj hq)
  · rename_i hq; exact hz2 (Option.some.inj hq)
  · exact h
theorem dp_nrl_of {n : Nat} : ∀ {L : dp_L} {i : Nat} {v : Value}, dp_nrl n L = true → dp_gt L i = some v → dp_nrv n v = true
  | [], _, _, _, h => by cases h
  | some w :: t, 0, v, h, hi => by
    cases hi
    simp only [dp_nrl, Bool.and_eq_true] at h
    exact h.1
  | none :: t, 0, v, h, hi => by cases hi
  | some w :: t, i + 1, v, h, hi => by
    simp only [dp_nrl, Bool.and_eq_true] at h
    exact dp_nrl_of h.2 hi
  | none :: t, i + 1, v, h, hi => dp_nrl_of (L := t) h hi
theorem dp_nrv_cv {n q9 : Nat} {ad : Nat → Nat} {v : Value} (h : dp_nrv n v = true) : dp_cv (fun k => if k = n then q9 else ad k) v = dp_cv ad v := by
  cases v <;> first | rfl | skip
  rename_i k
  have : k ≠ n := by simpa [dp_nrv] using h
  show Value.ref (if k = n then q9 else ad k) = Value.ref (ad k)
  rw [if_neg this]
theorem dp_nrs_cv {n q9 : Nat} {ad : Nat → Nat} : ∀ {r : List Value}, dp_nrs n r = true → r.map (dp_cv (fun k => if k = n then q9 else ad k)) = r.map (dp_cv ad)
  | [], _ => rfl
  | v :: t, h => by
    simp only [dp_nrs, Bool.and_eq_true] at h
    rw [List.map_cons, List.map_cons, dp_nrv_cv h.1, dp_nrs_cv h.2]
theorem dp_wl_push {n q9 : Nat} {ad : Nat → Nat} {M : dp_M} {o : Int64} {f : Nat → Int32} (hn : 65 ≤ n) (hA : dp_isA n = true) : dp_wl g ad n M o ++ [(q9, .inl (g.2.1, dp_len n, .inl f))] = dp_wl g (fun k => if k = n then q9 else ad k) (n + 1) (dp_row M n f) o := by
  unfold dp_wl
  rw [List.range_succ, List.map_append]
  congr 1
  · apply List.map_congr_left
    intro j hj
    have hj := List.mem_range.mp hj
    have e1 : dp_cel g (fun k => if k = n then q9 else ad k) (dp_row M n f) o j = dp_cel g ad M o j := by
      rw [dp_cel_ad (ad := ad) (fun k hk => if_neg (by omega))]
      exact dp_cel_ext (fun i => by rw [dp_row_n M f (by omega)]) (fun _ => rfl)
    rw [e1]
    simp only [show j ≠ n by omega, if_false]
  · simp only [List.map_cons, List.map_nil, if_true]
    rw [dp_cel_A hA, dp_row_s]
theorem dp_cln_ok (C : dp_Cx p l R s m args c g X b A y d) {i pc n cc q : Nat} {L : dp_L} {st : List Value} {M : dp_M} {o : Int64} (hd : decode (dp_by y) pc = .ok (.invokevirtual i, 3)) (ho : dp_ow y = 4)
    (h : dp_cln y (dp_KW p l e R s m args below meth c Qm g b A (dp_mL y) n0 ad0) pc L st n cc q M o (dp_nat (dp_ow y) i)) : dp_KW p l e R s m args below meth c Qm g b A (dp_mL y) n0 ad0 pc L st n cc q M o := by
  obtain ⟨z, hmem, h⟩ := dp_nat_of (f := fun z => dp_cln y (dp_KW p l e R s m args below meth c Qm g b A (dp_mL y) n0 ad0) pc L st n cc q M o z) (fun h => h) h
  obtain ⟨hx, hb, hml, hown, hts, htr, htab, hd1, hfr, hlo, hRc, hRs, hy, hG⟩ := C
  intro h0 ad H locs ls h1 h2 h3 h4 h5 h6
  have hw := hts _ (dp_wd_nat hmem)
  unfold dp_linkN at hw
  have hml' : c.maxLocals = ls.size := by rw [hml, h3.1]
  have hfr1 : 1 ≤ R.frames := Nat.le_trans hd1 hfr
  by_cases hz0 : z = 203
  · subst hz0
    obtain ⟨a1, r, rfl, hr, q1, q2, q3, q4, q5, q6, q7, q8, q9, k1⟩ := dp_pr_of h
    have hbw := hG.2.2.2.2.2.2.1
    have hAn : dp_isA n = true := by
      simp only [dp_isA, Bool.not_eq_true', Bool.or_eq_false_iff, beq_eq_false_iff_ne]
      omega
    have hname : s.vm.findClass "[I" = some g.2.1 := (hG.1.2 0 _ rfl).2
    refine va_clone (ad := "[I") hx hb hml' hown hw (hts _ (dp_wd_x0 8 rfl)) (hts _ (dp_wd_x0 9 rfl)) (hts _ (dp_wd_x0 10 rfl)) (hts _ (dp_wd_x0 11 rfl)) (hbw _ (by simp [dp_bw])) hG.1 h4 h5 h6 hG.2.2.2.2.2.2.2.2.2 a1 0 (dp_wl_A q2 q1) rfl hname ?_ hfr1 ?_ (by rw [hRc]; exact q6) (by rw [hRs]; exact q7) hd (fun qa H1 g0 g1 g2 g3 => ?_)
    · intro i v hv
      have hlt : i < dp_len a1 := by
        have h9 := (Array.getElem?_eq_some_iff.mp hv).1
        rw [vp_cell_i, arrV_size] at h9
        exact h9
      rw [vp_cell_i, arrV_read _ _ hlt] at hv
      cases hv
      rfl
    · have := dp_sum_le ad r
      omega
    · rw [← q5, dp_wl_push q3 hAn] at g1 g2
      have h3' : dp_LH ls (dp_mL y) (fun k => if k = n then qa else ad k) L := ⟨h3.1, h3.2.1, fun i v hi => by rw [dp_nrv_cv (dp_nrl_of q8 hi)]; exact h3.2.2 i v hi⟩
      have := k1 ⟨by omega, by omega⟩ (fun k => if k = n then qa else ad k) H1 locs ls (fun k hk => by rw [← h1 k hk]; exact if_neg (by omega)) (by rw [← h2]; exact if_neg (by omega)) h3' g1 g2 g3
      rw [List.map_cons, dp_nrs_cv q9] at this
      have e9 : dp_cv (fun k => if k = n then qa else ad k) (.ref n) = .ref qa := by
        show Value.ref (if n = n then qa else ad n) = Value.ref qa
        rw [if_pos rfl]
      rw [e9] at this
      exact this
  · exfalso
    unfold dp_cln at h
    split at h
    · rename_i hq; exact hz0 (Option.some.inj hq)
    · exact h
theorem dp_aald (hx : p.tables.exec = Jvm.exec) {cc : ByteArray} (hb : c.code = cc) {pc : Nat} {ls : Array Slot} {rest : List Value} {D : va_G} {cl : List vw_C} {a : Nat} {tys : List (ClassId × FieldType)} {ws : va_W} {H : Heap} {locs : List Loc} {cells slots : Nat} (hK : va_K D cl tys s) (hP : va_P D cl ws H) (q0 t0 : Nat) {cA : ClassId} {n : Nat} {f : Nat → Option Nat} (ha : ws[q0]? = some (a, .inl (cA, n, .inr (.inr (.inr (.inr f)))))) (ht : tys[t0]? = some (cA, .array .int)) {i : Int32} (hin : vp_in i n) (hdg : decode cc pc = .ok (.aaload, 1))
    (kk : W p l e R s m args below meth c H locs cells slots Qm (F0 m (pc + 1) ls (va_rf (f i.toNatClampNeg) :: rest))) : W p l e R s m args below meth c H locs cells slots Qm (F0 m pc ls (.int i :: .ref a :: rest)) := by
  have hlt : i.toNatClampNeg < n := Nat.not_le.mp fun q => hin (Or.inr q)
  exact W.aald (v := va_rf (f i.toNatClampNeg)) (ty := .array .int) hx hb (hP q0 _ ha) ((hK.2 t0 _ ht).1 n (fun j => va_rf (f j))) rfl (fun q => by cases q) (by show ¬ (i < 0 ∨ (arrV _ _ _).slots.size ≤ _); rw [arrV_size]; exact hin) (by show (arrV _ _ _).slots[_]? = _; rw [arrV_read _ _ hlt]) rfl rfl hdg kk
theorem dp_clT {ci : Nat} (hci : ci < 5) : vwCl[ci]? = some (vwCl.getD ci (RX0, TX0, 5)) := by
  rw [List.getD_eq_getElem?_getD, List.getElem?_eq_getElem (show ci < vwCl.length from hci)]
  rfl
/-- the facts of a class's fields -/
theorem dp_clF {ci : Nat} {q : vw_C} (hq : vwCl[ci]? = some q) : ∃ ty0 : Nat → FieldType, (∀ k, k < q.2.2 → parseFieldDescriptor (q.2.1 k).2.2.1 = some (ty0 k)) ∧ (∀ a, a < q.2.2 → ∀ b, b < q.2.2 → a ≠ b → (q.2.1 a).2.1 ≠ (q.2.1 b).2.1) := by
  match ci, hq with
  | 0, hq => cases hq; exact ⟨tyX0, tyX0_ok, nmX0⟩
  | 1, hq => cases hq; exact ⟨tyX1, tyX1_ok, nmX1⟩
  | 2, hq => cases hq; exact ⟨tyX2, tyX2_ok, nmX2⟩
  | 3, hq => cases hq; exact ⟨tyX3, tyX3_ok, nmX3⟩
  | 4, hq => cases hq; exact ⟨tyX4, tyX4_ok, nmX4⟩
  | c + 5, hq => simp [vwCl] at hq
theorem dp_objint {M : dp_M} {h ci k : Nat} {fs : List Value} {w : Int32} (hq : dp_obj M h = some (ci, fs)) (hk : dp_gtv fs k = some (.int w)) : ci < 5 ∧ k < (vwCl.getD ci (RX0, TX0, 5)).2.2 ∧ ((vwCl.getD ci (RX0, TX0, 5)).2.1 k).2.2.2 = false ∧ parseFieldDescriptor ((vwCl.getD ci (RX0, TX0, 5)).2.1 k).2.2.1 = some .int ∧ k < fs.length := by
  rcases dp_isA_or h with hA | rfl | rfl | rfl | rfl | rfl | rfl | rfl | rfl | rfl | rfl
  · rw [dp_obj_A hA] at hq; cases hq
  · cases hq
    match k, hk with
    | 0, hk => cases hk
    | 1, hk => cases hk
    | 2, hk => cases hk
    | 3, hk => cases hk
    | 4, hk => cases hk
    | k + 5, hk => cases hk
  · cases hq
    match k, hk with
    | 0, hk => cases hk
    | 1, hk => cases hk
    | 2, hk => cases hk
    | 3, hk => cases hk
    | 4, hk => cases hk
    | 5, hk => exact ⟨by decide, by decide, rfl, tyX2_ok 5 (by decide), by simp⟩
    | k + 6, hk => cases hk
  · cases hq
    match k, hk with
    | 0, hk => cases hk
    | 1, hk => cases hk
    | 2, hk => cases hk
    | 3, hk => exact ⟨by decide, by decide, rfl, tyX1_ok 3 (by decide), by simp⟩
    | k + 4, hk => cases hk
  · cases hq
    match k, hk with
    | 0, hk => cases hk
    | 1, hk => cases hk
    | 2, hk => cases hk
    | 3, hk => cases hk
    | 4, hk => exact ⟨by decide, by decide, rfl, tyX0_ok 4 (by decide), by simp⟩
    | k + 5, hk => cases hk
  · cases hq
    match k, hk with
    | 0, hk => cases hk
    | 1, hk => cases hk
    | 2, hk => cases hk
    | 3, hk => cases hk
    | 4, hk => exact ⟨by decide, by decide, rfl, tyX0_ok 4 (by decide), by simp⟩
    | k + 5, hk => cases hk
  · cases hq
    match k, hk with
    | 0, hk => exact ⟨by decide, by decide, rfl, tyX4_ok 0 (by decide), by simp⟩
    | 1, hk => exact ⟨by decide, by decide, rfl, tyX4_ok 1 (by decide), by simp⟩
    | 2, hk => exact ⟨by decide, by decide, rfl, tyX4_ok 2 (by decide), by simp⟩
    | 3, hk => exact ⟨by decide, by decide, rfl, tyX4_ok 3 (by decide), by simp⟩
    | 4, hk => cases hk
    | 5, hk => cases hk
    | 6, hk => cases hk
    | k + 7, hk => cases hk
  all_goals cases hq
end DPT
