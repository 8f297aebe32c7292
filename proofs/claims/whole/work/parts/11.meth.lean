/-! A method that the deep semantics lets run keeps its contract. -/
theorem dp_args_in (ad : Nat → Nat) : ∀ (as : List Value) (m i j : Nat) (v : Value), dp_gt (dp_args m as) j = some v → (i + j, dp_cv ad v) ∈ lv_args i (as.map (dp_cv ad))
  | [], m, i, j, v, h => by
    have : ∀ (m j : Nat), dp_gt (List.replicate m none) j = none := fun m => by
      induction m with
      | zero => intro j; rfl
      | succ m ih =>
        intro j
        cases j with
        | zero => rfl
        | succ j => exact ih j
    rw [show dp_args m [] = List.replicate m none from by cases m <;> rfl, this] at h
    cases h
  | w :: t, m, i, j, v, h => by
    have key1 : w.category = 1 → dp_args m (w :: t) = some w :: dp_args (m - 1) t := fun hc => by
      cases w <;> first | rfl | (cases hc)
    have key2 : w.category = 2 → dp_args m (w :: t) = some w :: none :: dp_args (m - 2) t := fun hc => by
      cases w <;> first | rfl | (cases hc)
    rw [List.map_cons, lv_args, dp_cv_cat]
    rcases lv_cat w with hc | hc
    · rw [key1 hc] at h
      rw [if_neg (by omega)]
      cases j with
      | zero => cases h; exact List.mem_cons_self
      | succ j =>
        refine List.mem_cons_of_mem _ ?_
        rw [show i + (j + 1) = i + 1 + j by omega]
        exact dp_args_in ad t (m - 1) (i + 1) j v h
    · rw [key2 hc] at h
      rw [if_pos hc]
      match j, h with
      | 0, h => cases h; exact List.mem_cons_self
      | 1, h => cases h
      | j + 2, h =>
        refine List.mem_cons_of_mem _ ?_
        rw [show i + (j + 2) = i + 2 + j by omega]
        exact dp_args_in ad t (m - 2) (i + 2) j v h
theorem dp_asz_sl (ad : Nat → Nat) : ∀ (as : List Value), (lg_sl (as.map (dp_cv ad))).length = dp_asz as
  | [] => rfl
  | w :: t => by
    have ih := dp_asz_sl ad t
    rw [List.map_cons]
    have e : lg_sl (dp_cv ad w :: t.map (dp_cv ad)) = (if (dp_cv ad w).category = 2 then [.val (dp_cv ad w), .second] else [.val (dp_cv ad w)]) ++ lg_sl (t.map (dp_cv ad)) := rfl
    rw [e, List.length_append, ih, dp_cv_cat]
    cases w <;> simp [dp_asz, Value.category] <;> omega
theorem dp_cut {g : dp_G} {ad ad0 : Nat → Nat} {n n0 : Nat} {M : dp_M} {o : Int64} (h65 : 65 ≤ n0) (hn : n0 ≤ n) (h1 : ∀ k, k < n0 → ad k = ad0 k) {k : Nat} {q : Nat × va_E} (hk : (dp_wl g ad0 n0 M o)[k]? = some q) : (dp_wl g ad n M o)[k]? = some q := by
  obtain ⟨hl, rfl⟩ := dp_wl_get hk
  rw [dp_wl_at (by omega), h1 k hl, dp_cel_ad (ad := ad0) (fun j hj => h1 j (by omega))]
theorem dp_cutP {g : dp_G} {ad ad0 : Nat → Nat} {n n0 : Nat} {M : dp_M} {o : Int64} {H : Heap} (h65 : 65 ≤ n0) (hn : n0 ≤ n) (h1 : ∀ k, k < n0 → ad k = ad0 k) (h : va_P g.1 vwCl (dp_wl g ad n M o) H) : va_P g.1 vwCl (dp_wl g ad0 n0 M o) H := fun k q hk => h k q (dp_cut h65 hn h1 hk)
theorem dp_cutD {g : dp_G} {ad ad0 : Nat → Nat} {n n0 : Nat} {M : dp_M} {o : Int64} {A : Nat → Prop} (h65 : 65 ≤ n0) (hn : n0 ≤ n) (h1 : ∀ k, k < n0 → ad k = ad0 k) (h : va_D A (dp_wl g ad n M o)) : va_D A (dp_wl g ad0 n0 M o) :=
  ⟨fun i j p q hi hj hpq => h.1 i j p q (dp_cut h65 hn h1 hi) (dp_cut h65 hn h1 hj) hpq, fun k q hk => h.2 k q (dp_cut h65 hn h1 hk)⟩
theorem dp_lk_dec {y : Nat} (hy : y < 147) {pc : Nat} {i : Jvm.ClassFile.Instr × Nat} (h : dp_lk (dp_tl y) pc = i) (hne : i ≠ (.nop, 0)) : decode (dp_by y) pc = .ok i := by
  rcases dp_dec hy pc with e | ⟨e, -⟩
  · exact absurd (h.symm.trans e) hne
  · rw [show dp_tab y pc = i from h] at e
    exact e
theorem dp_npat_of {y : Nat} (hy : y < 147) {pc i : Nat} (h : dp_npat (dp_tl y) pc i = true) : ∃ (is : Nat) (tx : String), (3, is, tx) ∈ dp_st ∧ decode (dp_by y) (pc + 3) = .ok (.dup, 1) ∧ decode (dp_by y) (pc + 4) = .ok (.ldc is, 2) ∧ decode (dp_by y) (pc + 6) = .ok (.invokespecial (dp_exc (dp_ec i)), 3) ∧ decode (dp_by y) (pc + 9) = .ok (.athrow, 1) := by
  unfold dp_npat at h
  simp only [Bool.and_eq_true, decide_eq_true_eq] at h
  obtain ⟨⟨⟨h1, h2⟩, h3⟩, h4⟩ := h
  split at h2
  · rename_i is he
    obtain ⟨⟨a, j, tx⟩, hm, hq⟩ := List.any_eq_true.mp h2
    simp only [Bool.and_eq_true, beq_iff_eq] at hq
    obtain ⟨rfl, rfl⟩ := hq
    exact ⟨j, tx, hm, dp_lk_dec hy h1 (by intro z; cases z), dp_lk_dec hy he (by intro z; cases z), dp_lk_dec hy h3 (by intro z; cases z), dp_lk_dec hy h4 (by intro z; cases z)⟩
  · cases h2
theorem dp_hat {args : Array Value} {s : State} (hts : ∀ w ∈ dp_wd, w.before args s = true) (hbw : ∀ w ∈ dp_bw, va_Nw w s) {k : Nat} (hk : k ≤ 2) : ∀ w ∈ vx_atS RX3 (dp_exc k) (dp_exn k) dp_nam, w.before args s = true := by
  have hb2 : ∀ w ∈ dp_bw, w.before args s = true := fun w hw => va_Nw.use (List.all_eq_true.mp (show dp_bw.all Cond.onTables = true by decide +kernel) w hw) (hbw w hw)
  rcases (by omega : k = 0 ∨ k = 1 ∨ k = 2) with rfl | rfl | rfl
  · exact vx_hat (B := dp_bw) (fun w hw => hts w (dp_wd_x2 (by unfold dp_x2; exact List.mem_append_left _ hw))) (by decide +kernel) hb2
  · exact vx_hat (B := dp_bw) (fun w hw => hts w (dp_wd_x2 (by unfold dp_x2; exact List.mem_append_right _ (List.mem_append_left _ hw)))) (by decide +kernel) hb2
  · exact vx_hat (B := dp_bw) (fun w hw => hts w (dp_wd_x2 (by unfold dp_x2; exact List.mem_append_right _ (List.mem_append_right _ hw)))) (by decide +kernel) hb2
theorem dp_ot {k : Nat} (hk : k ≤ 2) : ∀ w ∈ Cond.classLink RX3 (dp_exk k) (dp_exn k) :: Cond.initialized (dp_exn k) :: vx_atS RX3 (dp_exc k) (dp_exn k) dp_nam, vx_ot w = true := by
  rcases (by omega : k = 0 ∨ k = 1 ∨ k = 2) with rfl | rfl | rfl <;> decide +kernel
section DPM
variable {p : Program} {l : Launch} {e : Env} {s : State} {m : MethodId} {args : Array Value} {below : List Frame} {meth : Method} {c : Code}
variable {g : dp_G} {X : dp_X} {b : Nat} {A : Nat → Prop} {y d n0 : Nat} {ad0 : Nat → Nat} {Q : dp_Q}
theorem dp_hok3 {y : Nat} (hy : y < 147) (ho : dp_ow y = 3) : dp_hh y = [] := by
  have h := List.all_eq_true.mp dp_hho_all y (List.mem_range.mpr hy)
  simp only [dp_hho, Bool.and_eq_true, Bool.or_eq_true, decide_eq_true_eq] at h
  rcases h.2 with h | h
  · exact List.isEmpty_iff.mp h
  · omega
theorem dp_ends (C : dp_Cx p l (dp_rm y d) s m args c g X b A y d) (h65 : 65 ≤ n0) (hr : meth.sig.returnType = dp_rt y) (hlocks : meth.locks = false) :
    dp_En p l e (dp_rm y d) s m args below meth c (vx_MQ below (dp_Qc g A ad0 n0 Q) (dp_XC g A ad0 n0 Q) args s (dp_mc y) (dp_ms y) A) g b A y n0 ad0 Q ∧
    dp_Ex p l e (dp_rm y d) s m args below meth c (vx_MQ below (dp_Qc g A ad0 n0 Q) (dp_XC g A ad0 n0 Q) args s (dp_mc y) (dp_ms y) A) g b A y n0 ad0 Q ∧
    dp_Nw p l e (dp_rm y d) s m args below meth c (vx_MQ below (dp_Qc g A ad0 n0 Q) (dp_XC g A ad0 n0 Q) args s (dp_mc y) (dp_ms y) A) g b A y d n0 ad0 Q := by
  have C' := C
  obtain ⟨hx, hb, hml, hown, hts, htr, htab, hd1, hfr, hlo, hRc, hRs, hy, hG⟩ := C
  refine ⟨?_, ?_, ?_⟩
  · intro v pc n cc q M o ad H locs ls h0 h1 h4 h5 h6 hisr hcc hqq hq
    refine W.widen hcc hqq (vx_ret ?_)
    have post : ∀ t : State, t.heap = H → (∀ ad' : Nat → Nat, v.map (dp_cv ad') = v) → dp_Qc g A ad0 n0 Q args s (.returned v) t := fun t ht hnr =>
      ⟨⟨v, M, o, rfl, hnr, hq, by rw [ht]; exact dp_cutP h65 h0 h1 h4, dp_cutD h65 h0 h1 h5⟩, h6.F ht⟩
    unfold dp_rt at hr
    rcases hisr with ⟨hd, rfl, hk⟩ | ⟨x, hd, rfl, hk⟩ | ⟨x, hd, rfl, hk⟩ | ⟨x, hd, rfl, hk⟩
    · rw [hk] at hr
      exact W.vret hx hb hr (fun t ht _ => post t ht (fun _ => rfl)) h6.2.2 hd hlocks
    · unfold dp_rz at hk
      split at hk
      · rename_i hk1
        rw [hk1] at hr
        exact W.iret hx hb hr (fun t ht _ => post t ht (fun _ => rfl)) h6.2.2 hd hlocks
      · rename_i hk1
        rw [hk1] at hr
        exact W.zret (ty := .boolean) hx hb hr (by rcases hk with rfl | rfl <;> rfl) (fun t ht _ => post t ht (fun _ => rfl)) h6.2.2 hd hlocks
      · exact hk.elim
    · rw [hk] at hr
      exact W.lret hx hb hr (fun t ht _ => post t ht (fun _ => rfl)) h6.2.2 hd hlocks
    · rw [hk] at hr
      exact W.dret hx hb hr (fun t ht _ => post t ht (fun _ => rfl)) h6.2.2 hd hlocks
  · intro k pc n cc q M o ad H locs ls st ce q9 h0 h1 h4 h5 h6 hf hk hcell hv hcl hcc hqq hq
    refine vx_outP (own := dp_o (dp_ow y)) (E := dp_exn k) (ce := ce) hown hlocks ?_ hcell hv hcl (fun t ht _ => ⟨⟨k, M, o, rfl, hk, hq, by rw [ht]; exact dp_cutP h65 h0 h1 h4, dp_cutD h65 h0 h1 h5⟩, h6.F ht⟩) h6.2.2 hcc hqq
    rw [htab]
    exact dp_hpass C' hk (fun z hz => hz) (dp_hf_none _ _ _ hf)
  · intro i pc n cc q M o ad H locs ls st h0 h1 hsz h4 h5 h6 hd hpat ho hec hexk hthr
    obtain ⟨t1, t2, t3, t4, hq⟩ := hthr
    obtain ⟨is, tx, hst, d3, d4, d6, d9⟩ := dp_npat_of hy hpat
    obtain ⟨sa, hsa⟩ := hG.2.2.2.2.2.2.2.2.1 _ hst
    have hbw := hG.2.2.2.2.2.2.1
    have hown3 : s.vm.findClass RX3 = some m.cls := by rw [ho] at hown; exact hown
    have hck : (Cond.classLink RX3 i (dp_exn (dp_ec i))).before args s = true ∧ (Cond.initialized (dp_exn (dp_ec i))).before args s = true := by
      rw [← hexk]
      generalize dp_ec i = k at hec
      rcases (by omega : k = 0 ∨ k = 1 ∨ k = 2) with rfl | rfl | rfl
      · exact ⟨hts _ (dp_wd_x1 0 rfl), hts _ (dp_wd_x1 1 rfl)⟩
      · exact ⟨hts _ (dp_wd_x1 3 rfl), hts _ (dp_wd_x1 4 rfl)⟩
      · exact ⟨hts _ (dp_wd_x1 6 rfl), hts _ (dp_wd_x1 7 rfl)⟩
    have hfit : Bundle.fit (dp_exn (dp_ec i)) = true := by
      generalize dp_ec i = k at hec
      rcases (by omega : k = 0 ∨ k = 1 ∨ k = 2) with rfl | rfl | rfl <;> decide +kernel
    have hot := dp_ot hec
    rw [hexk] at hot
    refine vx_throwS (own := RX3) (cls := dp_exn (dp_ec i)) (text := tx) (names := dp_nam) (ik := i) (is := is) (ic := dp_exc (dp_ec i)) (sa := sa) (A := A) hx hb htr hown3 hfit (by decide +kernel) hck.1 hck.2 hsa (dp_hat hts hbw hec) hot hG.2.1 hG.2.2.1 h6 (by rw [hsz, hml]) hd d3 d4 d6 d9 ?_ ?_ ?_ ?_ ?_ hlocks ?_ h6.2.2 t3 t4
    · intro x hx9
      rw [htab, dp_hok3 hy ho] at hx9
      cases hx9
    · show dp_nam.length + 3 < d
      exact t1
    · have := dp_sum_le ad st
      show _ + (13 * (dp_nam.length + 1) + 43) ≤ 28 * d + 60
      have e : dp_nam.length = 2 := rfl
      rw [e]
      omega
    · exact t3
    · exact t4
    · intro t hal hsz9 hkeep
      refine ⟨⟨dp_ec i, M, o, rfl, hec, hq, ?_, dp_cutD h65 h0 h1 h5⟩, Nat.le_trans h6.1 hsz9, fun q9 g1 g2 => by rw [hkeep q9 (Nat.lt_of_lt_of_le g1 h6.1)]; exact h6.2.1 q9 g1 g2⟩
      exact dp_cutP h65 h0 h1 (h4.kept (fun k9 z hz => hkeep _ (h4 k9 z hz).lt))
end DPM
theorem dp_met {l : Launch} (htr : l.stackTraces = false) {g : dp_G} {X : dp_X} {b : Nat} {A : Nat → Prop} : ∀ (d z : Nat) (as : List Value) (n : Nat) (M : dp_M) (o : Int64) (Q : dp_Q), z < 146 → dp_run X d z as n M o Q → dp_Mt l g X b A d z as n M o Q
  | 0, _, _, _, _, _, _, _, h => h.elim
  | d + 1, z, as, n, M, o, Q, hz, h => by
    intro h65 hn hasz ad hb
    obtain ⟨z1, z2, z3, z4, z5, z6, z7, z8⟩ := dp_zok_spec (z := z) (by omega)
    have body : ∀ (p : Program) (e : Env) (s : State) (m : MethodId) (args : Array Value) (below : List Frame) (meth : Method) (c : Code) (s₁ : State), BodyLoose p l (dp_nm z) (headSpec (dp_codeW z :: dp_wd) (dp_rm z (d + 1))) (dp_by z) (dp_mL z) (dp_rt z) e s m args below meth c s₁ → c.maxLocals = dp_mL z → c.exceptionTable.toList = tableOf (dp_hh z) → va_Pc (as.map (dp_cv ad)) (dp_Pc g X b A ad n M o) args s →
        W p l e (headSpec (dp_codeW z :: dp_wd) (dp_rm z (d + 1))).room s m args below meth c s.heap [] 0 0 (vx_MQ below (dp_Qc g A ad n Q) (dp_XC g A ad n Q) args s (dp_mc z) (dp_ms z) A) (entryFrame m args (dp_mL z)) := by
      intro p e s m args below meth c s₁ B hml htab hv
      obtain ⟨rfl, hG, hP, hD⟩ := hv
      have hts0 := atoms_spec (ws := dp_codeW z :: dp_wd) B.pre
      have C : dp_Cx p l (dp_rm z (d + 1)) s m (as.map (dp_cv ad)).toArray c g X b A z (d + 1) := ⟨B.exec, B.bytes, hml, by rw [← z4]; exact findClass_of_methodNamed B.named, fun w hw => hts0 w (List.mem_cons_of_mem _ hw), htr, htab, by omega, Nat.le_refl _, Nat.le_refl _, rfl, rfl, by omega, hG⟩
      obtain ⟨hE, hX, hN⟩ := dp_ends (e := e) (below := below) (meth := meth) (n0 := n) (ad0 := ad) (Q := Q) C h65 B.returns B.notSynchronized
      have hrun := h (dp_KW p l e (dp_rm z (d + 1)) s m (as.map (dp_cv ad)).toArray below meth c (vx_MQ below (dp_Qc g A ad n Q) (dp_XC g A ad n Q) (as.map (dp_cv ad)).toArray s (dp_mc z) (dp_ms z) A) g b A (dp_mL z) n ad)
        ⟨fun pc L st n cc q M o hw => dp_step C rfl hE hX hN (fun z as n M o Q' hz hc => dp_met htr d z as n M o Q' hz hc) hw, fun b9 pc L st n cc q M o hk => dp_KW.msk hk⟩
      have hle : (lg_sl (as.map (dp_cv ad))).length ≤ dp_mL z := by rw [dp_asz_sl]; exact hasz
      have hl := lv_entry (as.map (dp_cv ad)) hle
      rw [lg_entry_eq]
      exact hrun ⟨Nat.le_refl _, hn⟩ ad s.heap [] _ (fun _ _ => rfl) hb (dp_LH.of hl (fun j v hj => by simpa using dp_args_in ad as (dp_mL z) 0 j v hj)) hP hD va_S.rf
    cases he : (dp_hh z).isEmpty with
    | true =>
      refine vx_ofW (cc := dp_by z) (maxL := dp_mL z) (ret := dp_rt z) (ws' := dp_wd) z3 (by rw [dp_codeE he]) ?_
      intro p e s m args below meth c s₁ B hml ht hv
      refine body p e s m args below meth c s₁ B hml ?_ hv
      rw [List.isEmpty_iff.mp he]
      cases hl : c.exceptionTable.toList with
      | nil => rfl
      | cons x t => exact (ht x (by rw [hl]; exact List.mem_cons_self)).elim
    | false =>
      refine vx_ofWH (cc := dp_by z) (maxL := dp_mL z) (ret := dp_rt z) (hh := dp_hh z) (ws' := dp_wd) z3 (by rw [dp_codeH he]) ?_
      intro p e s m args below meth c s₁ B hml hv
      refine body p e s m args below meth c s₁ B hml ?_ hv
      refine vx_table (x := dp_nm z) B (bytes := dp_by z) (maxL' := dp_mL z) (ret' := dp_rt z) ?_
      have := atoms_spec (ws := dp_codeW z :: dp_wd) B.pre _ List.mem_cons_self
      rw [dp_codeH he] at this
      exact this
