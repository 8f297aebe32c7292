/-! A method that the deep semantics lets run keeps its contract. -/
theorem dp_args_in (ad : Nat → Nat) : ∀ (as : List Value) (m i j : Nat) (v : Value), dp_gt (dp_args m as) j = some v → (i + j, dp_cv ad v) ∈ lv_args i (as.map (dp_cv ad))
  | [], m, i, j, v, h => by
    have : ∀ (m j : Nat), dp_gt (List.replicate m none) j = none := fun m => by
      induction m with
      | zero => intro j; rfl
      | succ m ih =>
        intro j
        cases j with
        | zero => rfl
        | succ j => exact ih j
    rw [show dp_args m [] = List.replicate m none from by cases m <;> rfl, this] at h
    cases h
  | w :: t, m, i, j, v, h => by
    have key1 : w.category = 1 → dp_args m (w :: t) = some w :: dp_args (m - 1) t := fun hc => by
      cases w <;> first | rfl | (cases hc)
    have key2 : w.category = 2 → dp_args m (w :: t) = some w :: none :: dp_args (m - 2) t := fun hc => by
      cases w <;> first | rfl | (cases hc)
    rw [List.map_cons, lv_args, dp_cv_cat]
    rcases lv_cat w with hc | hc
    · rw [key1 hc] at h
      rw [if_neg (by omega)]
      cases j with
      | zero => cases h; exact List.mem_cons_self
      | succ j =>
        refine List.mem_cons_of_mem _ ?_
        rw [show i + (j + 1) = i + 1 + j by omega]
        exact dp_args_in ad t (m - 1) (i + 1) j v h
    · rw [key2 hc] at h
      rw [if_pos hc]
      match j, h with
      | 0, h => cases h; exact List.mem_cons_self
      | 1, h => cases h
      | j + 2, h =>
        refine List.mem_cons_of_mem _ ?_
        rw [show i + (j + 2) = i + 2 + j by omega]
        exact dp_args_in ad t (m - 2) (i + 2) j v h
theorem dp_asz_sl (ad : Nat → Nat) : ∀ (as : List Value), (lg_sl (as.map (dp_cv ad))).length = dp_asz as
  | [] => rfl
  | w :: t => by
    have ih := dp_asz_sl ad t
    rw [List.map_cons]
    have e : lg_sl (dp_cv ad w :: t.map (dp_cv ad)) = (if (dp_cv ad w).category = 2 then [.val (dp_cv ad w), .second] else [.val (dp_cv ad w)]) ++ lg_sl (t.map (dp_cv ad)) := rfl
    rw [e, List.length_append, ih, dp_cv_cat]
    cases w <;> simp [dp_asz, Value.category] <;> omega
theorem dp_lk_dec {y : Nat} (hy : y < 78) {pc : Nat} {i : Jvm.ClassFile.Instr × Nat} (h : dp_lk (dp_tl y) pc = i) (hne : i ≠ (.nop, 0)) : decode (dp_by y) pc = .ok i := by
  rcases dp_dec hy pc with e | ⟨e, -⟩
  · exact absurd (h.symm.trans e) hne
  · rw [show dp_tab y pc = i from h] at e
    exact e
theorem dp_npat_of {y : Nat} (hy : y < 78) {pc i : Nat} (h : dp_npat (dp_tl y) pc i = true) : ∃ (is : Nat) (tx : String), (3, is, tx) ∈ dp_st ∧ decode (dp_by y) (pc + 3) = .ok (.dup, 1) ∧ decode (dp_by y) (pc + 4) = .ok (.ldc is, 2) ∧ decode (dp_by y) (pc + 6) = .ok (.invokespecial (dp_exc (dp_ec i)), 3) ∧ decode (dp_by y) (pc + 9) = .ok (.athrow, 1) := by
  unfold dp_npat at h
  simp only [Bool.and_eq_true, decide_eq_true_eq] at h
  obtain ⟨⟨⟨h1, h2⟩, h3⟩, h4⟩ := h
  split at h2
  · rename_i is he
    obtain ⟨⟨a, j, tx⟩, hm, hq⟩ := List.any_eq_true.mp h2
    simp only [Bool.and_eq_true, beq_iff_eq] at hq
    obtain ⟨rfl, rfl⟩ := hq
    exact ⟨j, tx, hm, dp_lk_dec hy h1 (by intro z; cases z), dp_lk_dec hy he (by intro z; cases z), dp_lk_dec hy h3 (by intro z; cases z), dp_lk_dec hy h4 (by intro z; cases z)⟩
  · cases h2
theorem dp_hat {args : Array Value} {s : State} (hts : ∀ w ∈ dp_wd, w.before args s = true) (hbw : ∀ w ∈ dp_bw, va_Nw w s) {k : Nat} (hk : k ≤ 2) : ∀ w ∈ vx_atS RX3 (dp_exc k) (dp_exn k) dp_nam, w.before args s = true := by
  have hb2 : ∀ w ∈ dp_bw, w.before args s = true := fun w hw => va_Nw.use (List.all_eq_true.mp (show dp_bw.all Cond.onTables = true by decide +kernel) w hw) (hbw w hw)
  rcases (by omega : k = 0 ∨ k = 1 ∨ k = 2) with rfl | rfl | rfl
  · exact vx_hat (B := dp_bw) (fun w hw => hts w (dp_wd_x2 (by unfold dp_x2; exact List.mem_append_left _ hw))) (by decide +kernel) hb2
  · exact vx_hat (B := dp_bw) (fun w hw => hts w (dp_wd_x2 (by unfold dp_x2; exact List.mem_append_right _ (List.mem_append_left _ hw)))) (by decide +kernel) hb2
  · exact vx_hat (B := dp_bw) (fun w hw => hts w (dp_wd_x2 (by unfold dp_x2; exact List.mem_append_right _ (List.mem_append_right _ hw)))) (by decide +kernel) hb2
theorem dp_ot {k : Nat} (hk : k ≤ 2) : ∀ w ∈ Cond.classLink RX3 (dp_exk k) (dp_exn k) :: Cond.initialized (dp_exn k) :: vx_atS RX3 (dp_exc k) (dp_exn k) dp_nam, vx_ot w = true := by
  rcases (by omega : k = 0 ∨ k = 1 ∨ k = 2) with rfl | rfl | rfl <;> decide +kernel
section DPM
variable {p : Program} {l : Launch} {e : Env} {s : State} {m : MethodId} {args : Array Value} {below : List Frame} {meth : Method} {c : Code}
variable {g : dp_G} {X : dp_X} {b : Nat} {A : Nat → Prop} {y d : Nat} {ad : Nat → Nat} {Q : dp_Q}
theorem dp_ends (C : dp_Cx p l (dp_rm y d) s m args c g X b A y d) (hr : meth.sig.returnType = dp_rt y) (hlocks : meth.locks = false) :
    dp_En p l e (dp_rm y d) s m args below meth c (vx_MQ below (dp_Qc g A ad Q) (dp_XC g A ad Q) args s (dp_mc y) (dp_ms y) A) g A y ad Q ∧
    dp_Ex p l e (dp_rm y d) s m args below meth c (vx_MQ below (dp_Qc g A ad Q) (dp_XC g A ad Q) args s (dp_mc y) (dp_ms y) A) g A y ad Q ∧
    dp_Nw p l e (dp_rm y d) s m args below meth c (vx_MQ below (dp_Qc g A ad Q) (dp_XC g A ad Q) args s (dp_mc y) (dp_ms y) A) g A y d ad Q := by
  have C' := C
  obtain ⟨hx, hb, hml, hown, hts, htr, htab, hd1, hfr, hlo, hRc, hRs, hy, hG⟩ := C
  refine ⟨?_, ?_, ?_⟩
  · intro v pc cc q M o ds H locs ls h1 h4 h5 h6 hisr hcc hqq hq
    refine W.widen hcc hqq (vx_ret ?_)
    have post : ∀ t : State, t.heap = H → dp_Qc g A ad Q args s (.returned (v.map (dp_cv ad))) t := fun t ht =>
      ⟨⟨v, M, o, rfl, hq, ds, h1, by rw [ht]; exact h4, h5⟩, h6.F ht⟩
    unfold dp_rt at hr
    rcases hisr with ⟨hd, rfl, hk⟩ | ⟨x, hd, rfl, hk⟩ | ⟨x, hd, rfl, hk⟩ | ⟨x, hd, rfl, hk⟩ | ⟨x, hd, rfl, hk⟩
    · rw [hk] at hr
      exact W.vret hx hb hr (fun t ht _ => post t ht) h6.2.2 hd hlocks
    · unfold dp_rz at hk
      split at hk
      · rename_i hk1
        rw [hk1] at hr
        exact W.iret hx hb hr (fun t ht _ => post t ht) h6.2.2 hd hlocks
      · rename_i hk1
        rw [hk1] at hr
        exact W.zret (ty := .boolean) hx hb hr (by rcases hk with rfl | rfl <;> rfl) (fun t ht _ => post t ht) h6.2.2 hd hlocks
      · exact hk.elim
    · rw [hk] at hr
      exact W.lret hx hb hr (fun t ht _ => post t ht) h6.2.2 hd hlocks
    · rw [hk] at hr
      exact W.dret hx hb hr (fun t ht _ => post t ht) h6.2.2 hd hlocks
    · rcases hk with hk | hk
      · rw [hk] at hr
        exact W.aret (rt := .array .int) hx hb hr (Or.inr ⟨_, rfl⟩) (Or.inr ⟨_, rfl⟩) (fun t ht _ => post t ht) h6.2.2 hd hlocks
      · rw [hk] at hr
        exact W.aret (rt := .object "ClipBureauLaw$Sim") hx hb hr (Or.inl ⟨_, rfl⟩) (Or.inr ⟨_, rfl⟩) (fun t ht _ => post t ht) h6.2.2 hd hlocks
  · intro k pc cc q M o ds H locs ls st ce q9 h1 h4 h5 h6 hk hcell hv hcl hcc hqq hq
    refine vx_outP (own := dp_o (dp_ow y)) (E := dp_exn k) (ce := ce) hown hlocks ?_ hcell hv hcl (fun t ht _ => ⟨⟨k, M, o, rfl, hk, hq, ds, h1, by rw [ht]; exact h4, h5⟩, h6.F ht⟩) h6.2.2 hcc hqq
    intro x hx9
    rw [htab] at hx9
    cases hx9
  · intro i pc cc q M o ds H locs ls st h1 hsz h4 h5 h6 hd hpat ho hec hexk hthr
    obtain ⟨t1, t2, t3, t4, hq⟩ := hthr
    obtain ⟨is, tx, hst, d3, d4, d6, d9⟩ := dp_npat_of hy hpat
    obtain ⟨sa, hsa⟩ := hG.2.2.2.2.2.2.2.2.1 _ hst
    have hbw := hG.2.2.2.2.2.2.1
    have hown3 : s.vm.findClass RX3 = some m.cls := by rw [ho] at hown; exact hown
    have hck : (Cond.classLink RX3 i (dp_exn (dp_ec i))).before args s = true ∧ (Cond.initialized (dp_exn (dp_ec i))).before args s = true := by
      rw [← hexk]
      generalize dp_ec i = k at hec
      rcases (by omega : k = 0 ∨ k = 1 ∨ k = 2) with rfl | rfl | rfl
      · exact ⟨hts _ (dp_wd_x1 0 rfl), hts _ (dp_wd_x1 1 rfl)⟩
      · exact ⟨hts _ (dp_wd_x1 2 rfl), hts _ (dp_wd_x1 3 rfl)⟩
      · exact ⟨hts _ (dp_wd_x1 4 rfl), hts _ (dp_wd_x1 5 rfl)⟩
    have hfit : Bundle.fit (dp_exn (dp_ec i)) = true := by
      generalize dp_ec i = k at hec
      rcases (by omega : k = 0 ∨ k = 1 ∨ k = 2) with rfl | rfl | rfl <;> decide +kernel
    have hot := dp_ot hec
    rw [hexk] at hot
    refine vx_throwS (own := RX3) (cls := dp_exn (dp_ec i)) (text := tx) (names := dp_nam) (ik := i) (is := is) (ic := dp_exc (dp_ec i)) (sa := sa) (A := A) hx hb htr hown3 hfit (by decide +kernel) hck.1 hck.2 hsa (dp_hat hts hbw hec) hot hG.2.1 hG.2.2.1 h6 (by rw [hsz, hml]) hd d3 d4 d6 d9 ?_ ?_ ?_ ?_ ?_ hlocks ?_ h6.2.2 t3 t4
    · intro x hx9
      rw [htab] at hx9
      cases hx9
    · show dp_nam.length + 3 < d
      exact t1
    · have := dp_sum_le ad st
      show _ + (13 * (dp_nam.length + 1) + 43) ≤ 30 * d + 60 + dp_xl y
      have e : dp_nam.length = 2 := rfl
      rw [e]
      omega
    · exact t3
    · exact t4
    · intro t hal hsz9 hkeep
      refine ⟨⟨dp_ec i, M, o, rfl, hec, hq, ds, h1, ?_, h5⟩, Nat.le_trans h6.1 hsz9, fun q9 g1 g2 => by rw [hkeep q9 (Nat.lt_of_lt_of_le g1 h6.1)]; exact h6.2.1 q9 g1 g2⟩
      exact h4.kept (fun k9 z hz => hkeep _ (h4 k9 z hz).lt)
end DPM
theorem dp_met {l : Launch} (htr : l.stackTraces = false) {g : dp_G} {X : dp_X} {b : Nat} {A : Nat → Prop} : ∀ (d z : Nat) (as : List Value) (n : Nat) (M : dp_M) (o : dp_O) (Q : dp_Q), z < 77 → dp_run X d z as n M o Q → dp_Mt l g X b A d z as n M o Q
  | 0, _, _, _, _, _, _, _, h => h.elim
  | d + 1, z, as, n, M, o, Q, hz, h => by
    intro h65 hasz ad hb
    obtain ⟨z1, z2, z3, z4, z5, z6, z7, z8⟩ := dp_zok_spec (z := z) (by omega)
    refine vx_ofW (cc := dp_by z) (maxL := dp_mL z) (ret := dp_rt z) (ws' := dp_wd) z3 (by rw [dp_codeE z6]) ?_
    intro p e s m args below meth c s₁ B hml ht hv
    have htab : c.exceptionTable.toList = [] := by
      cases hl : c.exceptionTable.toList with
      | nil => rfl
      | cons x t => exact (ht x (by rw [hl]; exact List.mem_cons_self)).elim
    obtain ⟨rfl, hG, ds, hrep, hP, hD⟩ := hv
    have hts0 := atoms_spec (ws := dp_codeW z :: dp_wd) B.pre
    have C : dp_Cx p l (dp_rm z (d + 1)) s m (as.map (dp_cv ad)).toArray c g X b A z (d + 1) := ⟨B.exec, B.bytes, hml, by rw [← z4]; exact findClass_of_methodNamed B.named, fun w hw => hts0 w (List.mem_cons_of_mem _ hw), htr, htab, by omega, Nat.le_refl _, Nat.le_refl _, rfl, rfl, by omega, hG⟩
    obtain ⟨hE, hX, hN⟩ := dp_ends (e := e) (below := below) (meth := meth) (ad := ad) (Q := Q) C B.returns B.notSynchronized
    have hrun := h (dp_KW p l e (dp_rm z (d + 1)) s m (as.map (dp_cv ad)).toArray below meth c (vx_MQ below (dp_Qc g A ad Q) (dp_XC g A ad Q) (as.map (dp_cv ad)).toArray s (dp_mc z) (dp_ms z) A) g A (dp_mL z) ad)
      ⟨fun pc L st n cc q M o hw => dp_step C hb rfl hE hX hN (fun z as n M o Q' hz hc => dp_met htr d z as n M o Q' hz hc) hw, fun b9 pc L st n cc q M o hk => dp_KW.msk hk, fun pc L st n cc q cc' q' M o h1 h2 hk => dp_KW.wid h1 h2 hk⟩
    have hle : (lg_sl (as.map (dp_cv ad))).length ≤ dp_mL z := by rw [dp_asz_sl]; exact hasz
    have hl := lv_entry (as.map (dp_cv ad)) hle
    rw [lg_entry_eq]
    exact hrun h65 ds s.heap [] _ hrep (dp_LH.of hl (fun j v hj => by simpa using dp_args_in ad as (dp_mL z) 0 j v hj)) hP hD va_S.rf
