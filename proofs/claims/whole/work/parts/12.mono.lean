/-! The deep semantics is monotone; blocks of instructions. -/
theorem dp_hdl_mono {y : Nat} {Q1 Q2 : dp_Q} {K1 K2 : dp_K} (hK : ∀ pc L st n c q M o, K1 pc L st n c q M o → K2 pc L st n c q M o) (hQ : ∀ r M o, Q1 r M o → Q2 r M o) {E pc n c q : Nat} {L : dp_L} {M : dp_M} {o : Int64} (h : dp_hdl y Q1 K1 E pc L n c q M o) : dp_hdl y Q2 K2 E pc L n c q M o := by
  unfold dp_hdl at h ⊢
  split at h
  · exact hK _ _ _ _ _ _ _ _ h
  · exact ⟨hQ _ _ _ h.1, h.2⟩
theorem dp_aft_mono {y : Nat} {Q1 Q2 : dp_Q} {K1 K2 : dp_K} (hK : ∀ pc L st n c q M o, K1 pc L st n c q M o → K2 pc L st n c q M o) (hQ : ∀ r M o, Q1 r M o → Q2 r M o) {pc n c q : Nat} {L : dp_L} {r : List Value} (res : dp_R) (M : dp_M) (o : Int64) (h : dp_aft y Q1 K1 pc L r n c q res M o) : dp_aft y Q2 K2 pc L r n c q res M o := by
  match res, h with
  | .inl none, h => exact hK _ _ _ _ _ _ _ _ h
  | .inl (some v), h => exact hK _ _ _ _ _ _ _ _ h
  | .inr E, h => exact dp_hdl_mono hK hQ h
def dp_cmono (call : dp_C) : Prop := ∀ z as n M o (Q Q' : dp_Q), (∀ r M o, Q r M o → Q' r M o) → call z as n M o Q → call z as n M o Q'
theorem dp_inv_mono {call : dp_C} (hc : dp_cmono call) {y : Nat} {Q1 Q2 : dp_Q} {K1 K2 : dp_K} (hK : ∀ pc L st n c q M o, K1 pc L st n c q M o → K2 pc L st n c q M o) (hQ : ∀ r M o, Q1 r M o → Q2 r M o) {pc n c q : Nat} {L : dp_L} {st : List Value} {M : dp_M} {o : Int64} {s : Bool} {w : Option (Nat × Nat × Nat × Nat × Bool × Nat × Nat)} (h : dp_inv call y Q1 K1 pc L st n c q M o s w) : dp_inv call y Q2 K2 pc L st n c q M o s w := by
  match w, h with
  | none, h => exact h.elim
  | some (z, na, mc, ms, sta, ow, mL), h =>
    have key : ∀ (k : Nat) (st acc : List Value) (f1 f2 : List Value → List Value → Prop), (∀ a r, f1 a r → f2 a r) → dp_take k st acc f1 → dp_take k st acc f2 := fun k => by
      induction k with
      | zero => intro st acc f1 f2 hf h; exact hf _ _ h
      | succ k ih =>
        intro st acc f1 f2 hf h
        cases st with
        | nil => exact h.elim
        | cons v t => exact ih t _ f1 f2 hf h
    exact key na st [] _ _ (fun a r h => ⟨h.1, h.2.1, h.2.2.1, h.2.2.2.1, h.2.2.2.2.1, h.2.2.2.2.2.1, h.2.2.2.2.2.2.1, hc _ _ _ _ _ _ _ (fun res M o h => dp_aft_mono hK hQ res M o h) h.2.2.2.2.2.2.2⟩) h
theorem dp_ts_mono {x : Int32} : ∀ {lo : Int} {os : List Int} {F1 F2 : Int → Prop} (hF : ∀ o, F1 o → F2 o) (h : dp_ts x lo os F1), dp_ts x lo os F2
  | _, [], _, _, _, _ => trivial
  | _, _ :: _, _, _, hF, h => ⟨fun z => hF _ (h.1 z), dp_ts_mono hF h.2⟩
set_option maxHeartbeats 4000000 in
theorem dp_wp_mono {X : dp_X} {call : dp_C} (hc : dp_cmono call) {d y : Nat} {Q1 Q2 : dp_Q} {K1 K2 : dp_K} (hK : ∀ pc L st n c q M o, K1 pc L st n c q M o → K2 pc L st n c q M o) (hQ : ∀ r M o, Q1 r M o → Q2 r M o) {pc n c q : Nat} {L : dp_L} {st : List Value} {M : dp_M} {o : Int64} {i : Jvm.ClassFile.Instr}
    (h : dp_wp X call d y Q1 K1 pc L st n c q M o i) : dp_wp X call d y Q2 K2 pc L st n c q M o i := by
  have kk : ∀ {pc n c q : Nat} {L : dp_L} {st : List Value} {M : dp_M} {o : Int64}, K1 pc L st n c q M o → K2 pc L st n c q M o := fun h => hK _ _ _ _ _ _ _ _ h
  cases i with
  | aload_n k9 =>
    obtain ⟨x, hx, k⟩ := dp_lr_of h
    show dp_lr _ _ _
    unfold dp_lr
    rw [hx]
    exact kk k
  | aload k9 =>
    obtain ⟨x, hx, k⟩ := dp_lr_of h
    show dp_lr _ _ _
    unfold dp_lr
    rw [hx]
    exact kk k
  | iload_n k9 =>
    obtain ⟨x, hx, k⟩ := dp_li_of h
    show dp_li _ _ _
    unfold dp_li
    rw [hx]
    exact kk k
  | iload k9 =>
    obtain ⟨x, hx, k⟩ := dp_li_of h
    show dp_li _ _ _
    unfold dp_li
    rw [hx]
    exact kk k
  | lload_n k9 =>
    obtain ⟨x, hx, k⟩ := dp_lj_of h
    show dp_lj _ _ _
    unfold dp_lj
    rw [hx]
    exact kk k
  | lload k9 =>
    obtain ⟨x, hx, k⟩ := dp_lj_of h
    show dp_lj _ _ _
    unfold dp_lj
    rw [hx]
    exact kk k
  | dload k9 =>
    obtain ⟨x, hx, k⟩ := dp_ld_of h
    show dp_ld _ _ _
    unfold dp_ld
    rw [hx]
    exact kk k
  | iconst v =>
    exact kk h
  | bipush v =>
    exact kk h
  | sipush v =>
    exact kk h
  | ldc_w v =>
    obtain ⟨x, hx, k⟩ := dp_opt_of h
    show dp_opt _ _
    unfold dp_opt
    rw [hx]
    exact kk k
  | ldc2_w v =>
    obtain ⟨x, hx, k⟩ := dp_opt_of h
    show dp_opt _ _
    unfold dp_opt
    rw [hx]
    exact kk k
  | dconst v =>
    exact ⟨h.1, kk h.2⟩
  | istore_n k9 =>
    obtain ⟨x, r, rfl, k⟩ := dp_pi_of h
    exact kk k
  | istore k9 =>
    obtain ⟨x, r, rfl, k⟩ := dp_pi_of h
    exact kk k
  | lstore_n k9 =>
    obtain ⟨x, r, rfl, k⟩ := dp_pj_of h
    exact kk k
  | lstore k9 =>
    obtain ⟨x, r, rfl, k⟩ := dp_pj_of h
    exact kk k
  | dstore k9 =>
    obtain ⟨x, r, rfl, k⟩ := dp_pd_of h
    exact kk k
  | astore_n k9 =>
    obtain ⟨x, r, rfl, k⟩ := dp_pr_of h
    exact kk k
  | astore k9 =>
    obtain ⟨x, r, rfl, k⟩ := dp_pr_of h
    exact kk k
  | iinc k9 v =>
    obtain ⟨x, hx, k⟩ := dp_li_of h
    show dp_li _ _ _
    unfold dp_li
    rw [hx]
    exact kk k
  | iadd =>
    obtain ⟨x, r, rfl, k1⟩ := dp_pi_of h
    obtain ⟨z, r, rfl, k2⟩ := dp_pi_of k1
    exact kk k2
  | isub =>
    obtain ⟨x, r, rfl, k1⟩ := dp_pi_of h
    obtain ⟨z, r, rfl, k2⟩ := dp_pi_of k1
    exact kk k2
  | imul =>
    obtain ⟨x, r, rfl, k1⟩ := dp_pi_of h
    obtain ⟨z, r, rfl, k2⟩ := dp_pi_of k1
    exact kk k2
  | iand =>
    obtain ⟨x, r, rfl, k1⟩ := dp_pi_of h
    obtain ⟨z, r, rfl, k2⟩ := dp_pi_of k1
    exact kk k2
  | ior =>
    obtain ⟨x, r, rfl, k1⟩ := dp_pi_of h
    obtain ⟨z, r, rfl, k2⟩ := dp_pi_of k1
    exact kk k2
  | ishl =>
    obtain ⟨x, r, rfl, k1⟩ := dp_pi_of h
    obtain ⟨z, r, rfl, k2⟩ := dp_pi_of k1
    exact kk k2
  | ishr =>
    obtain ⟨x, r, rfl, k1⟩ := dp_pi_of h
    obtain ⟨z, r, rfl, k2⟩ := dp_pi_of k1
    exact kk k2
  | iushr =>
    obtain ⟨x, r, rfl, k1⟩ := dp_pi_of h
    obtain ⟨z, r, rfl, k2⟩ := dp_pi_of k1
    exact kk k2
  | idiv =>
    obtain ⟨x, r, rfl, k1⟩ := dp_pi_of h
    obtain ⟨z, r, rfl, k2⟩ := dp_pi_of k1
    exact ⟨k2.1, kk k2.2⟩
  | i2l =>
    obtain ⟨x, r, rfl, k⟩ := dp_pi_of h
    exact kk k
  | i2d =>
    obtain ⟨x, r, rfl, k⟩ := dp_pi_of h
    exact kk k
  | ladd =>
    obtain ⟨x, r, rfl, k1⟩ := dp_pj_of h
    obtain ⟨z, r, rfl, k2⟩ := dp_pj_of k1
    exact kk k2
  | lmul =>
    obtain ⟨x, r, rfl, k1⟩ := dp_pj_of h
    obtain ⟨z, r, rfl, k2⟩ := dp_pj_of k1
    exact kk k2
  | lcmp =>
    obtain ⟨x, r, rfl, k1⟩ := dp_pj_of h
    obtain ⟨z, r, rfl, k2⟩ := dp_pj_of k1
    exact kk k2
  | ddiv =>
    obtain ⟨x, r, rfl, k1⟩ := dp_pd_of h
    obtain ⟨z, r, rfl, k2⟩ := dp_pd_of k1
    exact ⟨k2.1, kk k2.2⟩
  | dcmp w =>
    obtain ⟨x, r, rfl, k1⟩ := dp_pd_of h
    obtain ⟨z, r, rfl, k2⟩ := dp_pd_of k1
    exact kk k2
  | ifCond cnd off =>
    cases cnd <;> (obtain ⟨x, r, rfl, k⟩ := dp_pi_of h; exact ⟨fun z => kk (k.1 z), fun z => kk (k.2 z)⟩)
  | if_icmp cnd off =>
    cases cnd <;> (obtain ⟨x, r, rfl, k1⟩ := dp_pi_of h; obtain ⟨w, r, rfl, k⟩ := dp_pi_of k1; exact ⟨fun z => kk (k.1 z), fun z => kk (k.2 z)⟩)
  | goto off =>
    exact kk h
  | tableswitch dflt lo hi offs =>
    obtain ⟨x, r, rfl, k⟩ := dp_pi_of h
    exact ⟨fun z => kk (k.1 z), dp_ts_mono (fun o z => kk z) k.2⟩
  | getfield i =>
    obtain ⟨hh, r, rfl, q1, k⟩ := dp_pr_of h
    refine ⟨q1, ?_⟩
    obtain ⟨ci, k9, fs, v, g1, g2, g3, g4⟩ := dp_get_of k
    rw [g1]
    unfold dp_get
    simp only [g2, g3]
    exact ⟨trivial, kk g4⟩
  | putfield i =>
    obtain ⟨x, r, rfl, k0⟩ := dp_pi_of h
    obtain ⟨hh, r, rfl, q1, k⟩ := dp_pr_of k0
    refine ⟨q1, ?_⟩
    obtain ⟨ci, k9, fs, v, g1, g2, g3, g4⟩ := dp_put_of k
    rw [g1]
    unfold dp_put
    simp only [g2, g3]
    exact ⟨trivial, kk g4⟩
  | iaload =>
    obtain ⟨x, r, rfl, k0⟩ := dp_pi_of h
    obtain ⟨hh, r, rfl, k⟩ := dp_pr_of k0
    rcases k with ⟨q1, q2, q3⟩ | ⟨q1, q2, q3, q4, q5⟩
    · exact Or.inl ⟨q1, q2, kk q3⟩
    · exact Or.inr ⟨q1, q2, q3, q4, kk q5⟩
  | iastore =>
    obtain ⟨x, r, rfl, k0⟩ := dp_pi_of h
    obtain ⟨i, r, rfl, k1⟩ := dp_pi_of k0
    obtain ⟨hh, r, rfl, q1, q2, q3, q4⟩ := dp_pr_of k1
    exact ⟨q1, q2, q3, kk q4⟩
  | laload =>
    obtain ⟨i, r, rfl, k1⟩ := dp_pi_of h
    obtain ⟨hh, r, rfl, q1, q2, q3, q4⟩ := dp_pr_of k1
    exact ⟨q1, q2, q3, kk q4⟩
  | lastore =>
    obtain ⟨x, r, rfl, k0⟩ := dp_pj_of h
    obtain ⟨i, r, rfl, k1⟩ := dp_pi_of k0
    obtain ⟨hh, r, rfl, q1, q2, q3, q4⟩ := dp_pr_of k1
    exact ⟨q1, q2, q3, kk q4⟩
  | aaload =>
    obtain ⟨i, r, rfl, k1⟩ := dp_pi_of h
    obtain ⟨hh, r, rfl, q1, k⟩ := dp_pr_of k1
    refine ⟨q1, ?_⟩
    unfold dp_aal at k ⊢
    split at k
    · exact ⟨k.1, kk k.2⟩
    · exact ⟨k.1, kk k.2⟩
    · exact ⟨k.1, kk k.2⟩
    · exact k.elim
  | arraylength =>
    obtain ⟨hh, r, rfl, k⟩ := dp_pr_of h
    rcases k with ⟨q1, q2⟩ | ⟨q1, q2, q3, q5⟩
    · exact Or.inl ⟨q1, kk q2⟩
    · exact Or.inr ⟨q1, q2, q3, kk q5⟩
  | dup =>
    obtain ⟨v, r, rfl, q1, q2⟩ := dp_p1_of h
    exact ⟨q1, kk q2⟩
  | dup2 =>
    obtain ⟨v, r, rfl, k1⟩ := dp_p1_of h
    obtain ⟨w, r, rfl, q1, q2, q3⟩ := dp_p1_of k1
    exact ⟨q1, q2, kk q3⟩
  | pop =>
    obtain ⟨v, r, rfl, q1, q2⟩ := dp_p1_of h
    exact ⟨q1, kk q2⟩
  | return_ =>
    exact ⟨h.1, h.2.1, h.2.2.1, h.2.2.2.1, hQ _ _ _ h.2.2.2.2⟩
  | ireturn =>
    obtain ⟨x, r, rfl, h⟩ := dp_pi_of h
    exact ⟨h.1, h.2.1, h.2.2.1, h.2.2.2.1, hQ _ _ _ h.2.2.2.2⟩
  | lreturn =>
    obtain ⟨x, r, rfl, h⟩ := dp_pj_of h
    exact ⟨h.1, h.2.1, h.2.2.1, h.2.2.2.1, hQ _ _ _ h.2.2.2.2⟩
  | dreturn =>
    obtain ⟨x, r, rfl, h⟩ := dp_pd_of h
    exact ⟨h.1, h.2.1, h.2.2.1, h.2.2.2.1, hQ _ _ _ h.2.2.2.2⟩
  | checkcast i =>
    obtain ⟨hh, r, rfl, q1, q2, q3, q4, q5⟩ := dp_pr_of h
    exact ⟨q1, q2, q3, q4, kk q5⟩
  | invokevirtual i =>
    rcases h with h | ⟨ho, h⟩
    · exact Or.inl (dp_inv_mono hc hK hQ h)
    · refine Or.inr ⟨ho, ?_⟩
      revert h
      generalize dp_nat (dp_ow y) i = w
      intro h
      unfold dp_cln at h ⊢
      split at h
      · obtain ⟨hh, r, rfl, q1, q2, q3, q4, q5, q6, q7, q8, q9, qa, qb⟩ := dp_pr_of h
        exact ⟨q1, q2, q3, q4, q5, q6, q7, q8, q9, qa, kk qb⟩
      · exact h.elim
  | invokestatic i =>
    rcases h with h | h
    · exact Or.inl (dp_inv_mono hc hK hQ h)
    · refine Or.inr ?_
      revert h
      generalize dp_nat (dp_ow y) i = w
      intro h
      unfold dp_natw at h ⊢
      split at h
      · obtain ⟨v, r, rfl, k1⟩ := dp_pi_of h
        obtain ⟨u, r, rfl, q1, q2, q3, k2⟩ := dp_pi_of k1
        exact ⟨q1, q2, q3, kk k2⟩
      · obtain ⟨v, r, rfl, k1⟩ := dp_pi_of h
        obtain ⟨u, r, rfl, q1, q2, q3, k2⟩ := dp_pi_of k1
        exact ⟨q1, q2, q3, kk k2⟩
      · obtain ⟨k, r, rfl, k1⟩ := dp_pi_of h
        obtain ⟨dp, r, rfl, k2⟩ := dp_pi_of k1
        obtain ⟨a2, r, rfl, k3⟩ := dp_pr_of k2
        obtain ⟨sp, r, rfl, k4⟩ := dp_pi_of k3
        obtain ⟨a1, r, rfl, hr, q1, q2, q3, q4, q5, q6, q7, q8, q9, k5⟩ := dp_pr_of k4
        exact ⟨hr, q1, q2, q3, q4, q5, q6, q7, q8, q9, kk k5⟩
      · exact h.elim
  | new i =>
    refine ⟨h.1, ?_⟩
    have h2 := h.2
    unfold dp_new at h2 ⊢
    split at h2
    · exact ⟨h2.1, h2.2.1, h2.2.2.1, h2.2.2.2.1, hQ _ _ _ h2.2.2.2.2⟩
    · exact ⟨h2.1, h2.2.1, h2.2.2.1, h2.2.2.2.1, hQ _ _ _ h2.2.2.2.2⟩
    · exact ⟨h2.1, h2.2.1, h2.2.2.1, h2.2.2.2.1, hQ _ _ _ h2.2.2.2.2⟩
    · exact h2.elim
  | _ => exact h.elim
theorem dp_run_mono (X : dp_X) : ∀ d : Nat, dp_cmono (dp_run X d)
  | 0, _, _, _, _, _, _, _, _, h => h.elim
  | d + 1, z, as, n, M, o, Q, Q', hQ, h => fun K hK => h K ⟨fun pc L st n c q M o hw => hK.1 pc L st n c q M o (dp_wp_mono (dp_run_mono X d) (fun _ _ _ _ _ _ _ _ h => h) hQ hw), hK.2⟩
/-- heads: where a block stops, and which locals are kept there -/
def dp_hd : List (Nat × List Bool) → Nat → Option (List Bool)
  | [], _ => none
  | (a, b) :: t, pc => if a = pc then some b else dp_hd t pc
def dp_bk (X : dp_X) (call : dp_C) (d y : Nat) (Q : dp_Q) (K : dp_K) (hs : List (Nat × List Bool)) : Nat → dp_K
  | 0 => K
  | f + 1 => fun pc L st n c q M o => match dp_hd hs pc with
    | some b => K pc (dp_msk b L) st n c q M o
    | none => dp_wp X call d y Q (dp_bk X call d y Q K hs f) pc L st n c q M o (dp_tab y pc).1
theorem dp_bk_ok {X : dp_X} {d d' y : Nat} {Q : dp_Q} {K : dp_K} (hK : dp_clo X (dp_run X d') d y Q K) (hs : List (Nat × List Bool)) : ∀ (f : Nat) (pc : Nat) (L : dp_L) (st : List Value) (n c q : Nat) (M : dp_M) (o : Int64), dp_bk X (dp_run X d') d y Q K hs f pc L st n c q M o → K pc L st n c q M o
  | 0, _, _, _, _, _, _, _, _, h => h
  | f + 1, pc, L, st, n, c, q, M, o, h => by
    unfold dp_bk at h
    split at h
    · exact hK.2 _ _ _ _ _ _ _ _ _ h
    · exact hK.1 _ _ _ _ _ _ _ _ (dp_wp_mono (dp_run_mono X d') (dp_bk_ok hK hs f) (fun _ _ _ h => h) h)
/-- a block from a head on -/
theorem dp_go {X : dp_X} {d d' y : Nat} {Q : dp_Q} {K : dp_K} (hK : dp_clo X (dp_run X d') d y Q K) (hs : List (Nat × List Bool)) (f : Nat) {pc : Nat} {L : dp_L} {st : List Value} {n c q : Nat} {M : dp_M} {o : Int64} {i : Jvm.ClassFile.Instr × Nat} (hi : dp_tab y pc = i) (h : dp_wp X (dp_run X d') d y Q (dp_bk X (dp_run X d') d y Q K hs f) pc L st n c q M o i.1) : K pc L st n c q M o := by
  subst hi
  exact hK.1 _ _ _ _ _ _ _ _ (dp_wp_mono (dp_run_mono X d') (dp_bk_ok hK hs f) (fun _ _ _ h => h) h)
