/-! What the tables say of the code, by the kernel. -/
def dp_il : Jvm.ClassFile.Instr → Nat
  | .aload _ | .iload _ | .lload _ | .dload _ | .istore _ | .astore _ | .lstore _ | .dstore _ | .bipush _ | .ldc _ | .newarray _ => 2
  | .sipush _ | .ldc_w _ | .ldc2_w _ | .iinc _ _ | .ifCond _ _ | .if_icmp _ _ | .goto _ | .getfield _ | .putfield _ | .invokevirtual _ | .invokestatic _ | .invokespecial _ | .new _ | .checkcast _ | .anewarray _ | .ifnonnull _ | .ifnull _ => 3
  | _ => 1
def dp_ec : Nat → Nat
  | 197 => 0
  | 54 => 1
  | 81 => 2
  | _ => 99
def dp_npat (tl : List dp_I) (pc i : Nat) : Bool :=
  decide (dp_lk tl (pc + 3) = (.dup, 1)) && (match dp_lk tl (pc + 4) with
    | (.ldc is, 2) => dp_st.any (fun e => e.1 == 3 && e.2.1 == is)
    | _ => false) && decide (dp_lk tl (pc + 6) = (.invokespecial (dp_exc (dp_ec i)), 3)) && decide (dp_lk tl (pc + 9) = (.athrow, 1))
def dp_jok (tl : List dp_I) (mL pc : Nat) : Jvm.ClassFile.Instr → Bool
  | .goto off => decide (0 ≤ (pc : Int) + off)
  | .ifnonnull off => decide (0 ≤ (pc : Int) + off)
  | .ifCond _ off => decide (0 ≤ (pc : Int) + off)
  | .if_icmp _ off => decide (0 ≤ (pc : Int) + off)
  | .tableswitch d lo hi offs => decide (0 ≤ (pc : Int) + d) && offs.toList.all (fun o => decide (0 ≤ (pc : Int) + o)) && decide (hi + 1 = lo + (offs.toList.length : Int))
  | .istore k => decide (k < mL)
  | .astore k => decide (k < mL)
  | .iinc k _ => decide (k < mL)
  | .istore_n k => decide (k.val < mL)
  | .astore_n k => decide (k.val < mL)
  | .lstore k => decide (k + 1 < mL)
  | .dstore k => decide (k + 1 < mL)
  | .lstore_n k => decide (k.val + 1 < mL)
  | .new i => dp_ec i == 99 || dp_npat tl pc i
  | _ => true
def dp_isT : Jvm.ClassFile.Instr → Bool
  | .tableswitch .. => true
  | _ => false
def dp_cke (y : Nat) (e : dp_I) : Bool := decide (decode (dp_by y) e.1 = .ok e.2) && (dp_isT e.2.1 || e.2.2 == dp_il e.2.1) && dp_jok (dp_tl y) (dp_mL y) e.1 e.2.1
def dp_chk (y : Nat) : Bool := (dp_tl y).all (dp_cke y)
set_option maxRecDepth 100000 in
set_option maxHeartbeats 4000000 in
theorem dp_chk_0 : (List.range' 0 25).all dp_chk = true := by decide +kernel
set_option maxRecDepth 100000 in
set_option maxHeartbeats 4000000 in
theorem dp_chk_1 : (List.range' 25 25).all dp_chk = true := by decide +kernel
set_option maxRecDepth 100000 in
set_option maxHeartbeats 4000000 in
theorem dp_chk_2 : (List.range' 50 18).all dp_chk = true := by decide +kernel
set_option maxRecDepth 100000 in
set_option maxHeartbeats 4000000 in
theorem dp_chk_3 : (List.range' 69 6).all dp_chk = true := by decide +kernel
set_option maxRecDepth 100000 in
set_option maxHeartbeats 4000000 in
theorem dp_chk_4 : (List.range' 76 1).all dp_chk = true := by decide +kernel
theorem dp_chl_t {y : Nat} {l : List dp_I} {k : Nat} (h : (l.take k).all (dp_cke y) = true) (h2 : (l.drop k).all (dp_cke y) = true) : l.all (dp_cke y) = true := by
  rw [← List.take_append_drop k l, List.all_append, h, h2]; rfl
theorem dp_chl_d {y : Nat} {l : List dp_I} {a b : Nat} (h : ((l.drop a).take b).all (dp_cke y) = true) (h2 : (l.drop (a + b)).all (dp_cke y) = true) : (l.drop a).all (dp_cke y) = true :=
  dp_chl_t (k := b) h (by rw [List.drop_drop]; exact h2)
set_option maxRecDepth 100000 in
set_option maxHeartbeats 4000000 in
theorem dp_chl_68_0 : (((dp_tl 68).drop 0).take 75).all (dp_cke 68) = true := by decide +kernel
set_option maxRecDepth 100000 in
set_option maxHeartbeats 4000000 in
theorem dp_chl_68_75 : (((dp_tl 68).drop 75).take 75).all (dp_cke 68) = true := by decide +kernel
set_option maxRecDepth 100000 in
set_option maxHeartbeats 4000000 in
theorem dp_chl_68_150 : (((dp_tl 68).drop 150).take 75).all (dp_cke 68) = true := by decide +kernel
set_option maxRecDepth 100000 in
set_option maxHeartbeats 4000000 in
theorem dp_chl_68_225 : (((dp_tl 68).drop 225).take 75).all (dp_cke 68) = true := by decide +kernel
set_option maxRecDepth 100000 in
set_option maxHeartbeats 4000000 in
theorem dp_chl_68_300 : (((dp_tl 68).drop 300).take 75).all (dp_cke 68) = true := by decide +kernel
set_option maxRecDepth 100000 in
set_option maxHeartbeats 4000000 in
theorem dp_chl_68_375 : (((dp_tl 68).drop 375).take 75).all (dp_cke 68) = true := by decide +kernel
set_option maxRecDepth 100000 in
set_option maxHeartbeats 4000000 in
theorem dp_chl_68_e : ((dp_tl 68).drop 450).all (dp_cke 68) = true := by decide +kernel
theorem dp_chkb_68 : dp_chk 68 = true := by
  have h := (dp_chl_d (a := 0) (b := 75) dp_chl_68_0 (dp_chl_d (a := 75) (b := 75) dp_chl_68_75 (dp_chl_d (a := 150) (b := 75) dp_chl_68_150 (dp_chl_d (a := 225) (b := 75) dp_chl_68_225 (dp_chl_d (a := 300) (b := 75) dp_chl_68_300 (dp_chl_d (a := 375) (b := 75) dp_chl_68_375 dp_chl_68_e))))))
  rw [List.drop_zero] at h
  exact h
set_option maxRecDepth 100000 in
set_option maxHeartbeats 4000000 in
theorem dp_chl_75_0 : (((dp_tl 75).drop 0).take 75).all (dp_cke 75) = true := by decide +kernel
set_option maxRecDepth 100000 in
set_option maxHeartbeats 4000000 in
theorem dp_chl_75_75 : (((dp_tl 75).drop 75).take 75).all (dp_cke 75) = true := by decide +kernel
set_option maxRecDepth 100000 in
set_option maxHeartbeats 4000000 in
theorem dp_chl_75_150 : (((dp_tl 75).drop 150).take 75).all (dp_cke 75) = true := by decide +kernel
set_option maxRecDepth 100000 in
set_option maxHeartbeats 4000000 in
theorem dp_chl_75_225 : (((dp_tl 75).drop 225).take 75).all (dp_cke 75) = true := by decide +kernel
set_option maxRecDepth 100000 in
set_option maxHeartbeats 4000000 in
theorem dp_chl_75_300 : (((dp_tl 75).drop 300).take 75).all (dp_cke 75) = true := by decide +kernel
set_option maxRecDepth 100000 in
set_option maxHeartbeats 4000000 in
theorem dp_chl_75_375 : (((dp_tl 75).drop 375).take 75).all (dp_cke 75) = true := by decide +kernel
set_option maxRecDepth 100000 in
set_option maxHeartbeats 4000000 in
theorem dp_chl_75_450 : (((dp_tl 75).drop 450).take 75).all (dp_cke 75) = true := by decide +kernel
set_option maxRecDepth 100000 in
set_option maxHeartbeats 4000000 in
theorem dp_chl_75_e : ((dp_tl 75).drop 525).all (dp_cke 75) = true := by decide +kernel
theorem dp_chkb_75 : dp_chk 75 = true := by
  have h := (dp_chl_d (a := 0) (b := 75) dp_chl_75_0 (dp_chl_d (a := 75) (b := 75) dp_chl_75_75 (dp_chl_d (a := 150) (b := 75) dp_chl_75_150 (dp_chl_d (a := 225) (b := 75) dp_chl_75_225 (dp_chl_d (a := 300) (b := 75) dp_chl_75_300 (dp_chl_d (a := 375) (b := 75) dp_chl_75_375 (dp_chl_d (a := 450) (b := 75) dp_chl_75_450 dp_chl_75_e)))))))
  rw [List.drop_zero] at h
  exact h
set_option maxRecDepth 100000 in
set_option maxHeartbeats 4000000 in
theorem dp_chl_77_0 : (((dp_tl 77).drop 0).take 75).all (dp_cke 77) = true := by decide +kernel
set_option maxRecDepth 100000 in
set_option maxHeartbeats 4000000 in
theorem dp_chl_77_75 : (((dp_tl 77).drop 75).take 75).all (dp_cke 77) = true := by decide +kernel
set_option maxRecDepth 100000 in
set_option maxHeartbeats 4000000 in
theorem dp_chl_77_150 : (((dp_tl 77).drop 150).take 75).all (dp_cke 77) = true := by decide +kernel
set_option maxRecDepth 100000 in
set_option maxHeartbeats 4000000 in
theorem dp_chl_77_225 : (((dp_tl 77).drop 225).take 75).all (dp_cke 77) = true := by decide +kernel
set_option maxRecDepth 100000 in
set_option maxHeartbeats 4000000 in
theorem dp_chl_77_300 : (((dp_tl 77).drop 300).take 75).all (dp_cke 77) = true := by decide +kernel
set_option maxRecDepth 100000 in
set_option maxHeartbeats 4000000 in
theorem dp_chl_77_375 : (((dp_tl 77).drop 375).take 75).all (dp_cke 77) = true := by decide +kernel
set_option maxRecDepth 100000 in
set_option maxHeartbeats 4000000 in
theorem dp_chl_77_450 : (((dp_tl 77).drop 450).take 75).all (dp_cke 77) = true := by decide +kernel
set_option maxRecDepth 100000 in
set_option maxHeartbeats 4000000 in
theorem dp_chl_77_e : ((dp_tl 77).drop 525).all (dp_cke 77) = true := by decide +kernel
theorem dp_chkb_77 : dp_chk 77 = true := by
  have h := (dp_chl_d (a := 0) (b := 75) dp_chl_77_0 (dp_chl_d (a := 75) (b := 75) dp_chl_77_75 (dp_chl_d (a := 150) (b := 75) dp_chl_77_150 (dp_chl_d (a := 225) (b := 75) dp_chl_77_225 (dp_chl_d (a := 300) (b := 75) dp_chl_77_300 (dp_chl_d (a := 375) (b := 75) dp_chl_77_375 (dp_chl_d (a := 450) (b := 75) dp_chl_77_450 dp_chl_77_e)))))))
  rw [List.drop_zero] at h
  exact h
theorem dp_chk_ok {y : Nat} (hy : y < 78) : dp_chk y = true := by
  rcases Nat.lt_or_ge y 25 with h0 | h0
  · exact List.all_eq_true.mp dp_chk_0 y (List.mem_range'_1.mpr (by omega))
  rcases Nat.lt_or_ge y 50 with h1 | h1
  · exact List.all_eq_true.mp dp_chk_1 y (List.mem_range'_1.mpr (by omega))
  rcases Nat.lt_or_ge y 68 with h2 | h2
  · exact List.all_eq_true.mp dp_chk_2 y (List.mem_range'_1.mpr (by omega))
  rcases Nat.lt_or_ge y 69 with h3 | h3
  · rw [show y = 68 by omega]; exact dp_chkb_68
  rcases Nat.lt_or_ge y 75 with h4 | h4
  · exact List.all_eq_true.mp dp_chk_3 y (List.mem_range'_1.mpr (by omega))
  rcases Nat.lt_or_ge y 76 with h5 | h5
  · rw [show y = 75 by omega]; exact dp_chkb_75
  rcases Nat.lt_or_ge y 77 with h6 | h6
  · exact List.all_eq_true.mp dp_chk_4 y (List.mem_range'_1.mpr (by omega))
  · rw [show y = 77 by omega]; exact dp_chkb_77
theorem dp_lk_or : ∀ (tl : List dp_I) (pc : Nat), dp_lk tl pc = (.nop, 0) ∨ (pc, dp_lk tl pc) ∈ tl
  | [], _ => Or.inl rfl
  | (a, i) :: t, pc => by
    unfold dp_lk
    by_cases h : a = pc
    · rw [if_pos h, h]
      exact Or.inr List.mem_cons_self
    · rw [if_neg h]
      rcases dp_lk_or t pc with h | h
      · exact Or.inl h
      · exact Or.inr (List.mem_cons_of_mem _ h)
theorem dp_dec {y : Nat} (hy : y < 78) (pc : Nat) : dp_tab y pc = (.nop, 0) ∨ (decode (dp_by y) pc = .ok (dp_tab y pc) ∧ (dp_isT (dp_tab y pc).1 = true ∨ (dp_tab y pc).2 = dp_il (dp_tab y pc).1) ∧ dp_jok (dp_tl y) (dp_mL y) pc (dp_tab y pc).1 = true) := by
  rcases dp_lk_or (dp_tl y) pc with h | h
  · exact Or.inl h
  · have h1 := List.all_eq_true.mp (dp_chk_ok hy) _ h
    simp only [dp_cke, Bool.and_eq_true, decide_eq_true_eq, Bool.or_eq_true, beq_iff_eq] at h1
    exact Or.inr ⟨h1.1.1, h1.1.2, h1.2⟩
