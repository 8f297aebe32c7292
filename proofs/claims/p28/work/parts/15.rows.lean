/-! Rows that walk a method in the deep semantics: one an instruction. -/
section KR
variable {X : dp_X} {call : dp_C} {d y : Nat} {Q : dp_Q} {K : dp_K} {pc n c q : Nat} {L : dp_L} {st : List Value} {M : dp_M} {o : dp_O}
theorem k_st (hK : dp_clo X call d y Q K) {i : Jvm.ClassFile.Instr} {len : Nat} (hi : dp_tab y pc = (i, len)) (h : dp_wp X call d y Q K pc L st n c q M o i) : K pc L st n c q M o := hK.1 _ _ _ _ _ _ _ _ (by rw [hi]; exact h)
theorem k_msk (hK : dp_clo X call d y Q K) (b : List Bool) {L' : dp_L} (hL : dp_msk b L = L') (h : K pc L' st n c q M o) : K pc L st n c q M o := hK.2.1 b _ _ _ _ _ _ _ _ (by rw [hL]; exact h)
theorem k_aload (hK : dp_clo X call d y Q K) {k h len : Nat} (hi : dp_tab y pc = (.aload k, len)) (hg : dp_gt L k = some (.ref h)) (hh : K (pc + 2) L (.ref h :: st) n c q M o) : K pc L st n c q M o := k_st hK hi (by show dp_lr _ _ _; unfold dp_lr; rw [hg]; exact hh)
theorem k_aload_n (hK : dp_clo X call d y Q K) {k : Fin 4} {h len : Nat} (hi : dp_tab y pc = (.aload_n k, len)) (hg : dp_gt L (dp_f4 k) = some (.ref h)) (hh : K (pc + 1) L (.ref h :: st) n c q M o) : K pc L st n c q M o := k_st hK hi (by show dp_lr _ _ _; unfold dp_lr; rw [hg]; exact hh)
theorem k_iload (hK : dp_clo X call d y Q K) {k len : Nat} {x : Int32} (hi : dp_tab y pc = (.iload k, len)) (hg : dp_gt L k = some (.int x)) (hh : K (pc + 2) L (.int x :: st) n c q M o) : K pc L st n c q M o := k_st hK hi (by show dp_li _ _ _; unfold dp_li; rw [hg]; exact hh)
theorem k_iload_n (hK : dp_clo X call d y Q K) {k : Fin 4} {len : Nat} {x : Int32} (hi : dp_tab y pc = (.iload_n k, len)) (hg : dp_gt L (dp_f4 k) = some (.int x)) (hh : K (pc + 1) L (.int x :: st) n c q M o) : K pc L st n c q M o := k_st hK hi (by show dp_li _ _ _; unfold dp_li; rw [hg]; exact hh)
theorem k_lload (hK : dp_clo X call d y Q K) {k len : Nat} {x : Int64} (hi : dp_tab y pc = (.lload k, len)) (hg : dp_gt L k = some (.long x)) (hh : K (pc + 2) L (.long x :: st) n c q M o) : K pc L st n c q M o := k_st hK hi (by show dp_lj _ _ _; unfold dp_lj; rw [hg]; exact hh)
theorem k_lload_n (hK : dp_clo X call d y Q K) {k : Fin 4} {len : Nat} {x : Int64} (hi : dp_tab y pc = (.lload_n k, len)) (hg : dp_gt L (dp_f4 k) = some (.long x)) (hh : K (pc + 1) L (.long x :: st) n c q M o) : K pc L st n c q M o := k_st hK hi (by show dp_lj _ _ _; unfold dp_lj; rw [hg]; exact hh)
theorem k_dload (hK : dp_clo X call d y Q K) {k len : Nat} {x : UInt64} (hi : dp_tab y pc = (.dload k, len)) (hg : dp_gt L k = some (.double x)) (hh : K (pc + 2) L (.double x :: st) n c q M o) : K pc L st n c q M o := k_st hK hi (by show dp_ld _ _ _; unfold dp_ld; rw [hg]; exact hh)
theorem k_iconst (hK : dp_clo X call d y Q K) {v : Int} {len : Nat} {x : Int32} (hi : dp_tab y pc = (.iconst v, len)) (hv : dp_kI v = x) (hh : K (pc + 1) L (.int x :: st) n c q M o) : K pc L st n c q M o := k_st hK hi (by subst hv; exact hh)
theorem k_bipush (hK : dp_clo X call d y Q K) {v : Int} {len : Nat} {x : Int32} (hi : dp_tab y pc = (.bipush v, len)) (hv : dp_kB v = x) (hh : K (pc + 2) L (.int x :: st) n c q M o) : K pc L st n c q M o := k_st hK hi (by subst hv; exact hh)
theorem k_sipush (hK : dp_clo X call d y Q K) {v : Int} {len : Nat} {x : Int32} (hi : dp_tab y pc = (.sipush v, len)) (hv : dp_kS v = x) (hh : K (pc + 3) L (.int x :: st) n c q M o) : K pc L st n c q M o := k_st hK hi (by subst hv; exact hh)
theorem k_ldc_w (hK : dp_clo X call d y Q K) {i len : Nat} {x : Int32} (hi : dp_tab y pc = (.ldc_w i, len)) (hv : dp_lo dp_ci (dp_ow y) i = some x) (hh : K (pc + 3) L (.int x :: st) n c q M o) : K pc L st n c q M o := k_st hK hi (by show dp_opt _ _; rw [hv]; exact hh)
theorem k_dconst (hK : dp_clo X call d y Q K) {len : Nat} (hi : dp_tab y pc = (.dconst 0, len)) (hh : K (pc + 1) L (.double FP.dconst0 :: st) n c q M o) : K pc L st n c q M o := k_st hK hi ⟨rfl, hh⟩
theorem k_istore (hK : dp_clo X call d y Q K) {k len : Nat} {x : Int32} {L' : dp_L} (hi : dp_tab y pc = (.istore k, len)) (hL : dp_s1 L k (.int x) = L') (hh : K (pc + 2) L' st n c q M o) : K pc L (.int x :: st) n c q M o := k_st hK hi (by subst hL; exact hh)
theorem k_istore_n (hK : dp_clo X call d y Q K) {k : Fin 4} {len : Nat} {x : Int32} {L' : dp_L} (hi : dp_tab y pc = (.istore_n k, len)) (hL : dp_s1 L (dp_f4 k) (.int x) = L') (hh : K (pc + 1) L' st n c q M o) : K pc L (.int x :: st) n c q M o := k_st hK hi (by subst hL; exact hh)
theorem k_astore (hK : dp_clo X call d y Q K) {k len x : Nat} {L' : dp_L} (hi : dp_tab y pc = (.astore k, len)) (hL : dp_s1 L k (.ref x) = L') (hh : K (pc + 2) L' st n c q M o) : K pc L (.ref x :: st) n c q M o := k_st hK hi (by subst hL; exact hh)
theorem k_astore_n (hK : dp_clo X call d y Q K) {k : Fin 4} {len x : Nat} {L' : dp_L} (hi : dp_tab y pc = (.astore_n k, len)) (hL : dp_s1 L (dp_f4 k) (.ref x) = L') (hh : K (pc + 1) L' st n c q M o) : K pc L (.ref x :: st) n c q M o := k_st hK hi (by subst hL; exact hh)
theorem k_lstore (hK : dp_clo X call d y Q K) {k len : Nat} {x : Int64} {L' : dp_L} (hi : dp_tab y pc = (.lstore k, len)) (hL : dp_s2 L k (.long x) = L') (hh : K (pc + 2) L' st n c q M o) : K pc L (.long x :: st) n c q M o := k_st hK hi (by subst hL; exact hh)
theorem k_lstore_n (hK : dp_clo X call d y Q K) {k : Fin 4} {len : Nat} {x : Int64} {L' : dp_L} (hi : dp_tab y pc = (.lstore_n k, len)) (hL : dp_s2 L (dp_f4 k) (.long x) = L') (hh : K (pc + 1) L' st n c q M o) : K pc L (.long x :: st) n c q M o := k_st hK hi (by subst hL; exact hh)
theorem k_dstore (hK : dp_clo X call d y Q K) {k len : Nat} {x : UInt64} {L' : dp_L} (hi : dp_tab y pc = (.dstore k, len)) (hL : dp_s2 L k (.double x) = L') (hh : K (pc + 2) L' st n c q M o) : K pc L (.double x :: st) n c q M o := k_st hK hi (by subst hL; exact hh)
theorem k_iinc (hK : dp_clo X call d y Q K) {k len : Nat} {v : Int} {x z : Int32} {L' : dp_L} (hi : dp_tab y pc = (.iinc k v, len)) (hg : dp_gt L k = some (.int x)) (hz : x + dp_kI v = z) (hL : dp_s1 L k (.int z) = L') (hh : K (pc + 3) L' st n c q M o) : K pc L st n c q M o := k_st hK hi (by show dp_li _ _ _; unfold dp_li; rw [hg]; subst hL; subst hz; exact hh)
theorem k_iadd (hK : dp_clo X call d y Q K) {a b z : Int32} {len : Nat} (hi : dp_tab y pc = (.iadd, len)) (hz : a + b = z) (hh : K (pc + 1) L (.int z :: st) n c q M o) : K pc L (.int b :: .int a :: st) n c q M o := k_st hK hi (by subst hz; exact hh)
theorem k_isub (hK : dp_clo X call d y Q K) {a b z : Int32} {len : Nat} (hi : dp_tab y pc = (.isub, len)) (hz : a - b = z) (hh : K (pc + 1) L (.int z :: st) n c q M o) : K pc L (.int b :: .int a :: st) n c q M o := k_st hK hi (by subst hz; exact hh)
theorem k_imul (hK : dp_clo X call d y Q K) {a b z : Int32} {len : Nat} (hi : dp_tab y pc = (.imul, len)) (hz : a * b = z) (hh : K (pc + 1) L (.int z :: st) n c q M o) : K pc L (.int b :: .int a :: st) n c q M o := k_st hK hi (by subst hz; exact hh)
theorem k_idiv (hK : dp_clo X call d y Q K) {a b z : Int32} {len : Nat} (hi : dp_tab y pc = (.idiv, len)) (hb : ¬ b = 0) (hz : a / b = z) (hh : K (pc + 1) L (.int z :: st) n c q M o) : K pc L (.int b :: .int a :: st) n c q M o := k_st hK hi ⟨hb, by subst hz; exact hh⟩
theorem k_iand (hK : dp_clo X call d y Q K) {a b z : Int32} {len : Nat} (hi : dp_tab y pc = (.iand, len)) (hz : a &&& b = z) (hh : K (pc + 1) L (.int z :: st) n c q M o) : K pc L (.int b :: .int a :: st) n c q M o := k_st hK hi (by subst hz; exact hh)
theorem k_ior (hK : dp_clo X call d y Q K) {a b z : Int32} {len : Nat} (hi : dp_tab y pc = (.ior, len)) (hz : a ||| b = z) (hh : K (pc + 1) L (.int z :: st) n c q M o) : K pc L (.int b :: .int a :: st) n c q M o := k_st hK hi (by subst hz; exact hh)
theorem k_ishl (hK : dp_clo X call d y Q K) {a b z : Int32} {len : Nat} (hi : dp_tab y pc = (.ishl, len)) (hz : a <<< (b &&& 31) = z) (hh : K (pc + 1) L (.int z :: st) n c q M o) : K pc L (.int b :: .int a :: st) n c q M o := k_st hK hi (by subst hz; exact hh)
theorem k_ishr (hK : dp_clo X call d y Q K) {a b z : Int32} {len : Nat} (hi : dp_tab y pc = (.ishr, len)) (hz : a >>> (b &&& 31) = z) (hh : K (pc + 1) L (.int z :: st) n c q M o) : K pc L (.int b :: .int a :: st) n c q M o := k_st hK hi (by subst hz; exact hh)
theorem k_iushr (hK : dp_clo X call d y Q K) {a b z : Int32} {len : Nat} (hi : dp_tab y pc = (.iushr, len)) (hz : (a.toUInt32 >>> (b.toUInt32 &&& Int32.toUInt32 31)).toInt32 = z) (hh : K (pc + 1) L (.int z :: st) n c q M o) : K pc L (.int b :: .int a :: st) n c q M o := k_st hK hi (by subst hz; exact hh)
theorem k_i2l (hK : dp_clo X call d y Q K) {a : Int32} {len : Nat} (hi : dp_tab y pc = (.i2l, len)) (hh : K (pc + 1) L (.long a.toInt64 :: st) n c q M o) : K pc L (.int a :: st) n c q M o := k_st hK hi hh
theorem k_i2d (hK : dp_clo X call d y Q K) {a : Int32} {len : Nat} (hi : dp_tab y pc = (.i2d, len)) (hh : K (pc + 1) L (.double (FP.i2d a) :: st) n c q M o) : K pc L (.int a :: st) n c q M o := k_st hK hi hh
theorem k_ladd (hK : dp_clo X call d y Q K) {a b : Int64} {len : Nat} (hi : dp_tab y pc = (.ladd, len)) (hh : K (pc + 1) L (.long (a + b) :: st) n c q M o) : K pc L (.long b :: .long a :: st) n c q M o := k_st hK hi hh
theorem k_lmul (hK : dp_clo X call d y Q K) {a b : Int64} {len : Nat} (hi : dp_tab y pc = (.lmul, len)) (hh : K (pc + 1) L (.long (a * b) :: st) n c q M o) : K pc L (.long b :: .long a :: st) n c q M o := k_st hK hi hh
theorem k_lcmp (hK : dp_clo X call d y Q K) {a b : Int64} {len : Nat} (hi : dp_tab y pc = (.lcmp, len)) (hh : K (pc + 1) L (.int (lg_cmp a b) :: st) n c q M o) : K pc L (.long b :: .long a :: st) n c q M o := k_st hK hi hh
theorem k_ddiv (hK : dp_clo X call d y Q K) {a b : UInt64} {len : Nat} (hi : dp_tab y pc = (.ddiv, len)) (hn : vf_n64 (FP.ddiv a b)) (hh : K (pc + 1) L (.double (FP.ddiv a b) :: st) n c q M o) : K pc L (.double b :: .double a :: st) n c q M o := k_st hK hi ⟨hn, hh⟩
theorem k_dcmp (hK : dp_clo X call d y Q K) {a b : UInt64} {e : Jvm.ClassFile.CmpOp} {len : Nat} (hi : dp_tab y pc = (.dcmp e, len)) (hh : K (pc + 1) L (.int (Op.cmpValue (FP.dcmp a b) e) :: st) n c q M o) : K pc L (.double b :: .double a :: st) n c q M o := k_st hK hi hh
theorem k_if_eq (hK : dp_clo X call d y Q K) {x : Int32} {off : Int} {len t : Nat} (hi : dp_tab y pc = (.ifCond .eq off, len)) (ht : dp_jt pc off = t) (h1 : x = 0 → K t L st n c q M o) (h2 : ¬ x = 0 → K (pc + 3) L st n c q M o) : K pc L (.int x :: st) n c q M o := k_st hK hi (by subst ht; exact ⟨h1, h2⟩)
theorem k_if_ne (hK : dp_clo X call d y Q K) {x : Int32} {off : Int} {len t : Nat} (hi : dp_tab y pc = (.ifCond .ne off, len)) (ht : dp_jt pc off = t) (h1 : x = 0 → K (pc + 3) L st n c q M o) (h2 : ¬ x = 0 → K t L st n c q M o) : K pc L (.int x :: st) n c q M o := k_st hK hi (by subst ht; exact ⟨h1, h2⟩)
theorem k_if_lt (hK : dp_clo X call d y Q K) {x : Int32} {off : Int} {len t : Nat} (hi : dp_tab y pc = (.ifCond .lt off, len)) (ht : dp_jt pc off = t) (h1 : x < 0 → K t L st n c q M o) (h2 : ¬ x < 0 → K (pc + 3) L st n c q M o) : K pc L (.int x :: st) n c q M o := k_st hK hi (by subst ht; exact ⟨h1, h2⟩)
theorem k_if_ge (hK : dp_clo X call d y Q K) {x : Int32} {off : Int} {len t : Nat} (hi : dp_tab y pc = (.ifCond .ge off, len)) (ht : dp_jt pc off = t) (h1 : x < 0 → K (pc + 3) L st n c q M o) (h2 : ¬ x < 0 → K t L st n c q M o) : K pc L (.int x :: st) n c q M o := k_st hK hi (by subst ht; exact ⟨h1, h2⟩)
theorem k_if_gt (hK : dp_clo X call d y Q K) {x : Int32} {off : Int} {len t : Nat} (hi : dp_tab y pc = (.ifCond .gt off, len)) (ht : dp_jt pc off = t) (h1 : 0 < x → K t L st n c q M o) (h2 : ¬ 0 < x → K (pc + 3) L st n c q M o) : K pc L (.int x :: st) n c q M o := k_st hK hi (by subst ht; exact ⟨h1, h2⟩)
theorem k_if_le (hK : dp_clo X call d y Q K) {x : Int32} {off : Int} {len t : Nat} (hi : dp_tab y pc = (.ifCond .le off, len)) (ht : dp_jt pc off = t) (h1 : 0 < x → K (pc + 3) L st n c q M o) (h2 : ¬ 0 < x → K t L st n c q M o) : K pc L (.int x :: st) n c q M o := k_st hK hi (by subst ht; exact ⟨h1, h2⟩)
theorem k_icmp_eq (hK : dp_clo X call d y Q K) {a b : Int32} {off : Int} {len t : Nat} (hi : dp_tab y pc = (.if_icmp .eq off, len)) (ht : dp_jt pc off = t) (h1 : a = b → K t L st n c q M o) (h2 : ¬ a = b → K (pc + 3) L st n c q M o) : K pc L (.int b :: .int a :: st) n c q M o := k_st hK hi (by subst ht; exact ⟨h1, h2⟩)
theorem k_icmp_ne (hK : dp_clo X call d y Q K) {a b : Int32} {off : Int} {len t : Nat} (hi : dp_tab y pc = (.if_icmp .ne off, len)) (ht : dp_jt pc off = t) (h1 : a = b → K (pc + 3) L st n c q M o) (h2 : ¬ a = b → K t L st n c q M o) : K pc L (.int b :: .int a :: st) n c q M o := k_st hK hi (by subst ht; exact ⟨h1, h2⟩)
theorem k_icmp_lt (hK : dp_clo X call d y Q K) {a b : Int32} {off : Int} {len t : Nat} (hi : dp_tab y pc = (.if_icmp .lt off, len)) (ht : dp_jt pc off = t) (h1 : a < b → K t L st n c q M o) (h2 : ¬ a < b → K (pc + 3) L st n c q M o) : K pc L (.int b :: .int a :: st) n c q M o := k_st hK hi (by subst ht; exact ⟨h1, h2⟩)
theorem k_icmp_ge (hK : dp_clo X call d y Q K) {a b : Int32} {off : Int} {len t : Nat} (hi : dp_tab y pc = (.if_icmp .ge off, len)) (ht : dp_jt pc off = t) (h1 : a < b → K (pc + 3) L st n c q M o) (h2 : ¬ a < b → K t L st n c q M o) : K pc L (.int b :: .int a :: st) n c q M o := k_st hK hi (by subst ht; exact ⟨h1, h2⟩)
theorem k_icmp_gt (hK : dp_clo X call d y Q K) {a b : Int32} {off : Int} {len t : Nat} (hi : dp_tab y pc = (.if_icmp .gt off, len)) (ht : dp_jt pc off = t) (h1 : b < a → K t L st n c q M o) (h2 : ¬ b < a → K (pc + 3) L st n c q M o) : K pc L (.int b :: .int a :: st) n c q M o := k_st hK hi (by subst ht; exact ⟨h1, h2⟩)
theorem k_icmp_le (hK : dp_clo X call d y Q K) {a b : Int32} {off : Int} {len t : Nat} (hi : dp_tab y pc = (.if_icmp .le off, len)) (ht : dp_jt pc off = t) (h1 : b < a → K (pc + 3) L st n c q M o) (h2 : ¬ b < a → K t L st n c q M o) : K pc L (.int b :: .int a :: st) n c q M o := k_st hK hi (by subst ht; exact ⟨h1, h2⟩)
theorem k_goto (hK : dp_clo X call d y Q K) {off : Int} {len t : Nat} (hi : dp_tab y pc = (.goto off, len)) (ht : dp_jt pc off = t) (h1 : K t L st n c q M o) : K pc L st n c q M o := k_st hK hi (by subst ht; exact h1)
theorem k_switch (hK : dp_clo X call d y Q K) {dflt lo hi0 : Int} {offs : Array Int} {len t : Nat} {x : Int32} (hi : dp_tab y pc = (.tableswitch dflt lo hi0 offs, len)) (ht : dp_jt pc dflt = t) (h1 : x.toInt < lo ∨ hi0 < x.toInt → K t L st n c q M o) (h2 : dp_ts x lo offs.toList fun off => K (dp_jt pc off) L st n c q M o) : K pc L (.int x :: st) n c q M o := k_st hK hi (by subst ht; exact ⟨h1, h2⟩)
theorem k_get (hK : dp_clo X call d y Q K) {i len h ow ci k : Nat} {fs : List Value} {v : Value} (hi : dp_tab y pc = (.getfield i, len)) (how : dp_ow y = ow) (hf : dp_fld ow i = some (ci, k)) (hn : h < n) (ho : dp_obj M h = some (ci, fs)) (hv : dp_gtv fs k = some v) (hh : K (pc + 3) L (v :: st) n c q M o) : K pc L (.ref h :: st) n c q M o := k_st hK hi (by
  refine Or.inl ⟨hn, ?_⟩
  rw [how, hf]
  unfold dp_get
  simp only [ho, hv]
  exact ⟨trivial, hh⟩)
theorem k_put (hK : dp_clo X call d y Q K) {i len h ow ci k : Nat} {fs : List Value} {x w : Int32} (hi : dp_tab y pc = (.putfield i, len)) (how : dp_ow y = ow) (hf : dp_fld ow i = some (ci, k)) (hn : h < n) (ho : dp_obj M h = some (ci, fs)) (hv : dp_gtv fs k = some (.int w)) (hh : K (pc + 3) L st n c q (dp_up M h k x) o) : K pc L (.int x :: .ref h :: st) n c q M o := k_st hK hi (by
  refine Or.inl ⟨hn, ?_⟩
  rw [how, hf]
  unfold dp_put
  simp only [ho, hv]
  exact ⟨trivial, hh⟩)
/-- an int array's read, at a place that is a number -/
theorem k_iald (hK : dp_clo X call d y Q K) {len h : Nat} {i : Int32} (j : Nat) (hi : dp_tab y pc = (.iaload, len)) (hA : dp_isA h = true) (hn : h < n) (h1 : h ≠ 1000) (hij : i = nI j) (hj : j < dp_len h) (hh : K (pc + 1) L (.int (M h j) :: st) n c q M o) : K pc L (.int i :: .ref h :: st) n c q M o := k_st hK hi (by
  have hl : dp_len h < 2 ^ 31 := by unfold dp_len; split <;> (repeat' split) <;> decide
  have e : (nI j).toNatClampNeg = j := nI_clamp (by omega)
  subst hij
  exact Or.inr (Or.inl ⟨h1, hA, hn, vp_in_nI hj hl, by rw [e]; exact hh⟩))
theorem k_iast (hK : dp_clo X call d y Q K) {len h : Nat} {i x : Int32} (j : Nat) (hi : dp_tab y pc = (.iastore, len)) (hA : dp_isA h = true) (hn : h < n) (hij : i = nI j) (hj : j < dp_len h) (hh : K (pc + 1) L st n c q (dp_up M h j x) o) : K pc L (.int x :: .int i :: .ref h :: st) n c q M o := k_st hK hi (by
  have hl : dp_len h < 2 ^ 31 := by unfold dp_len; split <;> (repeat' split) <;> decide
  have e : (nI j).toNatClampNeg = j := nI_clamp (by omega)
  subst hij
  refine Or.inl ⟨hA, hn, vp_in_nI hj hl, ?_⟩
  rw [e]
  exact hh)
/-- the script's read -/
theorem k_sald (hK : dp_clo X call d y Q K) {len : Nat} {i : Int32} (j : Nat) (hi : dp_tab y pc = (.iaload, len)) (hij : i = nI j) (hj : j < X.1) (hX : X.1 < 2 ^ 31) (hh : K (pc + 1) L (.int (X.2 j) :: st) n c q M o) : K pc L (.int i :: .ref 1000 :: st) n c q M o := k_st hK hi (by
  have e : (nI j).toNatClampNeg = j := nI_clamp (by omega)
  subst hij
  exact Or.inl ⟨rfl, vp_in_nI hj hX, by rw [e]; exact hh⟩)
theorem k_aald7 (hK : dp_clo X call d y Q K) {len : Nat} {i : Int32} (j : Nat) (hi : dp_tab y pc = (.aaload, len)) (hn : 7 < n) (hij : i = nI j) (hj : j < 16) (hh : K (pc + 1) L (.ref (27 + j) :: st) n c q M o) : K pc L (.int i :: .ref 7 :: st) n c q M o := k_st hK hi (by
  subst hij
  refine Or.inl ⟨hn, vp_in_nI hj (by decide), ?_⟩
  rw [nI_clamp (by omega)]
  exact hh)
theorem k_aald9 (hK : dp_clo X call d y Q K) {len : Nat} {i : Int32} (j : Nat) (hi : dp_tab y pc = (.aaload, len)) (hn : 9 < n) (hij : i = nI j) (hj : j < 16) (hh : K (pc + 1) L (.ref (43 + j) :: st) n c q M o) : K pc L (.int i :: .ref 9 :: st) n c q M o := k_st hK hi (by
  subst hij
  refine Or.inl ⟨hn, vp_in_nI hj (by decide), ?_⟩
  rw [nI_clamp (by omega)]
  exact hh)
theorem k_aald11 (hK : dp_clo X call d y Q K) {len : Nat} {i : Int32} (j : Nat) (hi : dp_tab y pc = (.aaload, len)) (hn : 11 < n) (hij : i = nI j) (hj : j < 6) (hh : K (pc + 1) L (.ref (59 + j) :: st) n c q M o) : K pc L (.int i :: .ref 11 :: st) n c q M o := k_st hK hi (by
  subst hij
  refine Or.inl ⟨hn, vp_in_nI hj (by decide), ?_⟩
  rw [nI_clamp (by omega)]
  exact hh)
theorem k_alen (hK : dp_clo X call d y Q K) {len h N : Nat} (hi : dp_tab y pc = (.arraylength, len)) (hA : dp_isA h = true) (hn : h < n) (h1 : h ≠ 1000) (hN : dp_len h = N) (hh : K (pc + 1) L (.int (nI N) :: st) n c q M o) : K pc L (.ref h :: st) n c q M o := k_st hK hi (Or.inr (Or.inl ⟨h1, hA, hn, by rw [hN]; exact hh⟩))
theorem k_slen (hK : dp_clo X call d y Q K) {len : Nat} (hi : dp_tab y pc = (.arraylength, len)) (hh : K (pc + 1) L (.int (nI X.1) :: st) n c q M o) : K pc L (.ref 1000 :: st) n c q M o := k_st hK hi (Or.inl ⟨rfl, hh⟩)
theorem k_dup (hK : dp_clo X call d y Q K) {len : Nat} {v : Value} (hi : dp_tab y pc = (.dup, len)) (hv : v.category = 1) (hh : K (pc + 1) L (v :: v :: st) n c q M o) : K pc L (v :: st) n c q M o := k_st hK hi ⟨hv, hh⟩
theorem k_dup2 (hK : dp_clo X call d y Q K) {len : Nat} {v w : Value} (hi : dp_tab y pc = (.dup2, len)) (hv : v.category = 1) (hw : w.category = 1) (hh : K (pc + 1) L (v :: w :: v :: w :: st) n c q M o) : K pc L (v :: w :: st) n c q M o := k_st hK hi ⟨hv, hw, hh⟩
theorem k_pop (hK : dp_clo X call d y Q K) {len : Nat} {v : Value} (hi : dp_tab y pc = (.pop, len)) (hv : v.category = 1) (hh : K (pc + 1) L st n c q M o) : K pc L (v :: st) n c q M o := k_st hK hi ⟨hv, hh⟩
theorem k_return (hK : dp_clo X call d y Q K) {len mc ms : Nat} (hi : dp_tab y pc = (.return_, len)) (hr : dp_rk y = 0) (hmc : dp_mc y = mc) (hms : dp_ms y = ms) (h1 : c ≤ mc) (h2 : q ≤ ms) (hh : Q (.inl none) M o) : K pc L [] n c q M o := k_st hK hi ⟨rfl, hr, by rw [hmc]; exact h1, by rw [hms]; exact h2, hh⟩
theorem k_ireturn (hK : dp_clo X call d y Q K) {len mc ms : Nat} {x : Int32} (hi : dp_tab y pc = (.ireturn, len)) (hr : dp_rk y = 1) (hmc : dp_mc y = mc) (hms : dp_ms y = ms) (h1 : c ≤ mc) (h2 : q ≤ ms) (hh : Q (.inl (some (.int x))) M o) : K pc L [.int x] n c q M o := k_st hK hi ⟨rfl, by rw [hr]; exact trivial, by rw [hmc]; exact h1, by rw [hms]; exact h2, hh⟩
theorem k_zreturn (hK : dp_clo X call d y Q K) {len mc ms : Nat} {x : Int32} (hi : dp_tab y pc = (.ireturn, len)) (hr : dp_rk y = 4) (hmc : dp_mc y = mc) (hms : dp_ms y = ms) (h1 : c ≤ mc) (h2 : q ≤ ms) (hx : x = 0 ∨ x = 1) (hh : Q (.inl (some (.int x))) M o) : K pc L [.int x] n c q M o := k_st hK hi ⟨rfl, by rw [hr]; exact hx, by rw [hmc]; exact h1, by rw [hms]; exact h2, hh⟩
theorem k_lreturn (hK : dp_clo X call d y Q K) {len mc ms : Nat} {x : Int64} (hi : dp_tab y pc = (.lreturn, len)) (hr : dp_rk y = 2) (hmc : dp_mc y = mc) (hms : dp_ms y = ms) (h1 : c ≤ mc) (h2 : q ≤ ms) (hh : Q (.inl (some (.long x))) M o) : K pc L [.long x] n c q M o := k_st hK hi ⟨rfl, hr, by rw [hmc]; exact h1, by rw [hms]; exact h2, hh⟩
theorem k_dreturn (hK : dp_clo X call d y Q K) {len mc ms : Nat} {x : UInt64} (hi : dp_tab y pc = (.dreturn, len)) (hr : dp_rk y = 3) (hmc : dp_mc y = mc) (hms : dp_ms y = ms) (h1 : c ≤ mc) (h2 : q ≤ ms) (hh : Q (.inl (some (.double x))) M o) : K pc L [.double x] n c q M o := k_st hK hi ⟨rfl, hr, by rw [hmc]; exact h1, by rw [hms]; exact h2, hh⟩
/-- a virtual call; the stack as arguments (the last first), receiver, rest -/
theorem k_callV (hK : dp_clo X call d y Q K) {i len ow z na mc ms w mL mcy msy h : Nat} {as st' : List Value} {fs : List Value} (hi : dp_tab y pc = (.invokevirtual i, len)) (how : dp_ow y = ow) (hiv : dp_iv ow i = some (z, na, mc, ms, false, w, mL)) (hmc : dp_mc y = mcy) (hms : dp_ms y = msy) (hst : st = as.reverse ++ .ref h :: st') (hna : (Value.ref h :: as).length = na) (h65 : 65 ≤ n) (hasz : dp_asz (.ref h :: as) ≤ mL) (hl : st'.length ≤ 4) (hc : c + mc ≤ mcy) (hq : q + ms ≤ msy) (hhn : h < n) (ho : dp_obj M h = some (w, fs))
    (hh : call z (.ref h :: as) n M o (dp_aft y Q K pc L st' n (c + mc) (q + ms))) (hxl : mL + dp_xl z ≤ 11 + dp_xl y := by decide) (hni : dp_nin z = true := by decide) : K pc L st n c q M o := k_st hK hi (by
  show dp_inv call y Q K pc L st n c q M o false (dp_iv (dp_ow y) i)
  rw [how, hiv]
  subst hst
  have key : ∀ (t acc r : List Value) (f : List Value → List Value → Prop), f (t.reverse ++ acc) r → dp_take t.length (t ++ r) acc f := fun t => by
    induction t with
    | nil => intro acc r f h; exact h
    | cons v t ih =>
      intro acc r f h
      refine ih (v :: acc) r f ?_
      rw [List.reverse_cons, List.append_assoc] at h
      exact h
  show dp_take na _ [] _
  have e : na = (as.reverse ++ [Value.ref h]).length := by rw [← hna]; simp
  rw [e, show as.reverse ++ Value.ref h :: st' = (as.reverse ++ [Value.ref h]) ++ st' by simp]
  refine key _ _ _ _ ?_
  rw [List.append_nil, List.reverse_append, List.reverse_reverse]
  refine ⟨rfl, h65, hasz, hxl, hl, by rw [hmc]; exact hc, by rw [hms]; exact hq, Or.inr ⟨Or.inl ⟨hhn, ?_⟩, hni⟩, hh⟩
  rw [ho])
/-- a virtual call; the stack as arguments (the last first), receiver, rest -/
theorem k_callVd (hK : dp_clo X call d y Q K) {i len ow z na mc ms w mL mcy msy h : Nat} {as st' : List Value} {fs : List Value} (hi : dp_tab y pc = (.invokevirtual i, len)) (how : dp_ow y = ow) (hiv : dp_iv ow i = some (z, na, mc, ms, false, w, mL)) (hmc : dp_mc y = mcy) (hms : dp_ms y = msy) (hst : st = as.reverse ++ .ref h :: st') (hna : (Value.ref h :: as).length = na) (h65 : 65 ≤ n) (hasz : dp_asz (.ref h :: as) ≤ mL) (hl : st'.length ≤ 4) (hc : c + mc ≤ mcy) (hq : q + ms ≤ msy) (ho : o h = some (.inl (w, fs)))
    (hh : call z (.ref h :: as) n M o (dp_aft y Q K pc L st' n (c + mc) (q + ms))) (hxl : mL + dp_xl z ≤ 11 + dp_xl y := by decide) (hni : dp_nin z = true := by decide) : K pc L st n c q M o := k_st hK hi (by
  show dp_inv call y Q K pc L st n c q M o false (dp_iv (dp_ow y) i)
  rw [how, hiv]
  subst hst
  have key : ∀ (t acc r : List Value) (f : List Value → List Value → Prop), f (t.reverse ++ acc) r → dp_take t.length (t ++ r) acc f := fun t => by
    induction t with
    | nil => intro acc r f h; exact h
    | cons v t ih =>
      intro acc r f h
      refine ih (v :: acc) r f ?_
      rw [List.reverse_cons, List.append_assoc] at h
      exact h
  show dp_take na _ [] _
  have e : na = (as.reverse ++ [Value.ref h]).length := by rw [← hna]; simp
  rw [e, show as.reverse ++ Value.ref h :: st' = (as.reverse ++ [Value.ref h]) ++ st' by simp]
  refine key _ _ _ _ ?_
  rw [List.append_nil, List.reverse_append, List.reverse_reverse]
  refine ⟨rfl, h65, hasz, hxl, hl, by rw [hmc]; exact hc, by rw [hms]; exact hq, Or.inr ⟨Or.inr ⟨fs, ho⟩, hni⟩, hh⟩)
/-- a virtual call; the stack as arguments (the last first), receiver, rest -/
theorem k_callI (hK : dp_clo X call d y Q K) {i len ow z na mc ms w mL mcy msy h : Nat} {as st' : List Value} {fs : List Value} {sta : Bool} (hi : dp_tab y pc = (.invokespecial i, len)) (how : dp_ow y = ow) (hiv : dp_iv ow i = some (z, na, mc, ms, sta, w, mL)) (hmc : dp_mc y = mcy) (hms : dp_ms y = msy) (hst : st = as.reverse ++ .ref h :: st') (hna : (Value.ref h :: as).length = na) (h65 : 65 ≤ n) (hasz : dp_asz (.ref h :: as) ≤ mL) (hl : st'.length ≤ 4) (hc : c + mc ≤ mcy) (hq : q + ms ≤ msy) (ho : o h = some (.inl (w, fs)))
    (hh : call z (.ref h :: as) n M o (dp_aft y Q K pc L st' n (c + mc) (q + ms))) (hxl : mL + dp_xl z ≤ 11 + dp_xl y := by decide) (hz9 : z = 59 ∨ z = 60 := by decide) : K pc L st n c q M o := k_st hK hi (by
  left
  rw [how, hiv]
  subst hst
  have key : ∀ (t acc r : List Value) (f : List Value → List Value → Prop), f (t.reverse ++ acc) r → dp_take t.length (t ++ r) acc f := fun t => by
    induction t with
    | nil => intro acc r f h; exact h
    | cons v t ih =>
      intro acc r f h
      refine ih (v :: acc) r f ?_
      rw [List.reverse_cons, List.append_assoc] at h
      exact h
  show dp_take na _ [] _
  have e : na = (as.reverse ++ [Value.ref h]).length := by rw [← hna]; simp
  rw [e, show as.reverse ++ Value.ref h :: st' = (as.reverse ++ [Value.ref h]) ++ st' by simp]
  refine key _ _ _ _ ?_
  rw [List.append_nil, List.reverse_append, List.reverse_reverse]
  exact ⟨hz9, h65, hasz, hxl, hl, by rw [hmc]; exact hc, by rw [hms]; exact hq, Or.inr ⟨fs, ho⟩, hh⟩)
/-- a virtual call; the stack as arguments (the last first), receiver, rest -/
theorem k_callN (hK : dp_clo X call d y Q K) {i len ow z na mc ms w mL mcy msy h : Nat} {as st' : List Value} {fs : List Value} {sta : Bool} (hi : dp_tab y pc = (.invokespecial i, len)) (how : dp_ow y = ow) (hiv : dp_ivN ow i = some (z, na, mc, ms, sta, w, mL)) (hmc : dp_mc y = mcy) (hms : dp_ms y = msy) (hst : st = as.reverse ++ .ref h :: st') (hna : (Value.ref h :: as).length = na) (h65 : 65 ≤ n) (hasz : dp_asz (.ref h :: as) ≤ mL) (hl : st'.length ≤ 4) (hc : c + mc ≤ mcy) (hq : q + ms ≤ msy) (ho : o h = some (.inl (w, fs)))
    (hh : call z (.ref h :: as) n M o (dp_aft y Q K pc L st' n (c + mc) (q + ms))) (hxl : mL + dp_xl z ≤ 11 + dp_xl y := by decide) (hz9 : z = 59 ∨ z = 60 := by decide) : K pc L st n c q M o := k_st hK hi (by
  right
  left
  rw [how, hiv]
  subst hst
  have key : ∀ (t acc r : List Value) (f : List Value → List Value → Prop), f (t.reverse ++ acc) r → dp_take t.length (t ++ r) acc f := fun t => by
    induction t with
    | nil => intro acc r f h; exact h
    | cons v t ih =>
      intro acc r f h
      refine ih (v :: acc) r f ?_
      rw [List.reverse_cons, List.append_assoc] at h
      exact h
  show dp_take na _ [] _
  have e : na = (as.reverse ++ [Value.ref h]).length := by rw [← hna]; simp
  rw [e, show as.reverse ++ Value.ref h :: st' = (as.reverse ++ [Value.ref h]) ++ st' by simp]
  refine key _ _ _ _ ?_
  rw [List.append_nil, List.reverse_append, List.reverse_reverse]
  exact ⟨hz9, h65, hasz, hxl, hl, by rw [hmc]; exact hc, by rw [hms]; exact hq, Or.inr ⟨fs, ho⟩, hh⟩)
theorem k_callS (hK : dp_clo X call d y Q K) {i len ow z na mc ms w mL mcy msy : Nat} {as st' : List Value} (hi : dp_tab y pc = (.invokestatic i, len)) (how : dp_ow y = ow) (hiv : dp_iv ow i = some (z, na, mc, ms, true, w, mL)) (hmc : dp_mc y = mcy) (hms : dp_ms y = msy) (hst : st = as.reverse ++ st') (hna : as.length = na) (h65 : 65 ≤ n) (hasz : dp_asz as ≤ mL) (hl : st'.length ≤ 4) (hc : c + mc ≤ mcy) (hq : q + ms ≤ msy)
    (hh : call z as n M o (dp_aft y Q K pc L st' n (c + mc) (q + ms))) (hxl : mL + dp_xl z ≤ 11 + dp_xl y := by decide) : K pc L st n c q M o := k_st hK hi (by
  left
  rw [how, hiv]
  subst hst
  have key : ∀ (t acc r : List Value) (f : List Value → List Value → Prop), f (t.reverse ++ acc) r → dp_take t.length (t ++ r) acc f := fun t => by
    induction t with
    | nil => intro acc r f h; exact h
    | cons v t ih =>
      intro acc r f h
      refine ih (v :: acc) r f ?_
      rw [List.reverse_cons, List.append_assoc] at h
      exact h
  show dp_take na _ [] _
  have e : na = as.reverse.length := by rw [← hna]; simp
  rw [e]
  refine key _ _ _ _ ?_
  rw [List.append_nil, List.reverse_reverse]
  exact ⟨rfl, h65, hasz, hxl, hl, by rw [hmc]; exact hc, by rw [hms]; exact hq, Or.inl rfl, hh⟩)
theorem k_min (hK : dp_clo X call d y Q K) {i len ow mcy msy : Nat} {a b : Int32} (hi : dp_tab y pc = (.invokestatic i, len)) (how : dp_ow y = ow) (hnt : dp_nat ow i = some 200) (hmc : dp_mc y = mcy) (hms : dp_ms y = msy) (hl : st.length ≤ 4) (hc : c ≤ mcy) (hq : q ≤ msy) (hh : K (pc + 3) L (.int (if b < a then b else a) :: st) n c q M o) : K pc L (.int b :: .int a :: st) n c q M o := k_st hK hi (by
  right
  rw [how, hnt]
  exact ⟨hl, by rw [hmc]; exact hc, by rw [hms]; exact hq, hh⟩)
theorem k_max (hK : dp_clo X call d y Q K) {i len ow mcy msy : Nat} {a b : Int32} (hi : dp_tab y pc = (.invokestatic i, len)) (how : dp_ow y = ow) (hnt : dp_nat ow i = some 201) (hmc : dp_mc y = mcy) (hms : dp_ms y = msy) (hl : st.length ≤ 4) (hc : c ≤ mcy) (hq : q ≤ msy) (hh : K (pc + 3) L (.int (if a < b then b else a) :: st) n c q M o) : K pc L (.int b :: .int a :: st) n c q M o := k_st hK hi (by
  right
  rw [how, hnt]
  exact ⟨hl, by rw [hmc]; exact hc, by rw [hms]; exact hq, hh⟩)
theorem k_copy (hK : dp_clo X call d y Q K) {i len ow h1 h2 : Nat} {sp dp k : Int32} (s' d' k' : Nat) (hi : dp_tab y pc = (.invokestatic i, len)) (how : dp_ow y = ow) (hnt : dp_nat ow i = some 202) (hl : st.length ≤ 4) (hA1 : dp_isA h1 = true) (hA2 : dp_isA h2 = true) (hn1 : h1 < n) (hn2 : h2 < n) (es : sp = nI s') (ed : dp = nI d') (ek : k = nI k') (b1 : s' + k' ≤ dp_len h1) (b2 : d' + k' ≤ dp_len h2) (hh : K (pc + 3) L st n c q (dp_row M h2 (va_cpy (M h1) (M h2) s' d' k')) o) : K pc L (.int k :: .int dp :: .ref h2 :: .int sp :: .ref h1 :: st) n c q M o := k_st hK hi (by
  right
  rw [how, hnt]
  have hl1 : dp_len h1 < 2 ^ 30 := by unfold dp_len; split <;> (repeat' split) <;> decide
  have hl2 : dp_len h2 < 2 ^ 30 := by unfold dp_len; split <;> (repeat' split) <;> decide
  subst es; subst ed; subst ek
  have e1 : (nI s').toNatClampNeg = s' := nI_clamp (by omega)
  have e2 : (nI d').toNatClampNeg = d' := nI_clamp (by omega)
  have e3 : (nI k').toNatClampNeg = k' := nI_clamp (by omega)
  refine ⟨hl, hA1, hA2, hn1, hn2, nI_pos (by omega), nI_pos (by omega), nI_pos (by omega), by rw [e1, e3]; exact b1, by rw [e2, e3]; exact b2, ?_⟩
  rw [e1, e2, e3]
  exact hh)
theorem k_throw (hK : dp_clo X call d y Q K) {len i mcy msy : Nat} (E : Nat) (hi : dp_tab y pc = (.new i, len)) (how : dp_ow y = 3) (hE : dp_exk E = i) (hE2 : E ≤ 2) (hmc : dp_mc y = mcy) (hms : dp_ms y = msy) (hd : 6 ≤ d) (hl : st.length ≤ 4) (hc : c + 1 ≤ mcy) (hq : q + 6 ≤ msy) (hh : Q (.inr E) M o) : K pc L st n c q M o := k_st hK hi (by
  refine Or.inl ⟨how, ?_⟩
  rcases (by omega : E = 0 ∨ E = 1 ∨ E = 2) with rfl | rfl | rfl <;> (cases hE; exact ⟨hd, hl, by rw [hmc]; exact hc, by rw [hms]; exact hq, hh⟩))
theorem k_leaves {E mcy msy : Nat} {st' : List Value} (hy : dp_hh y = []) (hmc : dp_mc y = mcy) (hms : dp_ms y = msy) (h1 : c ≤ mcy) (h2 : q ≤ msy) (hh : Q (.inr E) M o) : dp_aft y Q K pc L st' n c q (.inr E) M o := ⟨hh, by rw [hmc]; exact h1, by rw [hms]; exact h2⟩
/-- more room is taken as used -/
theorem k_wid (hK : dp_clo X call d y Q K) {c' q' : Nat} (h1 : c ≤ c') (h2 : q ≤ q') (h : K pc L st n c' q' M o) : K pc L st n c q M o := hK.2.2 _ _ _ _ _ _ _ _ _ _ h1 h2 h
-- cells made
theorem k_dget (hK : dp_clo X call d y Q K) {i len h ow ci k : Nat} {fs : List Value} (v : Value) (hi : dp_tab y pc = (.getfield i, len)) (how : dp_ow y = ow) (hf : dp_fld ow i = some (ci, k)) (ho : o h = some (.inl (ci, fs))) (hv : dp_gtv fs k = some v) (hh : K (pc + 3) L (v :: st) n c q M o) : K pc L (.ref h :: st) n c q M o := k_st hK hi (Or.inr ⟨ci, k, fs, v, by rw [how]; exact hf, ho, hv, hh⟩)
theorem k_dput (hK : dp_clo X call d y Q K) {i len h ow ci k : Nat} {fs fs' : List Value} {v : Value} (hi : dp_tab y pc = (.putfield i, len)) (how : dp_ow y = ow) (hf : dp_fld ow i = some (ci, k)) (hci : ci = 4 ∨ ci = 5) (ho : o h = some (.inl (ci, fs))) (hk : k < fs.length) (hv : dp_fv (dp_ft ci k) v) (hfs : fs.set k v = fs') (hh : K (pc + 3) L st n c q M (dp_ou o h (.inl (ci, fs')))) : K pc L (v :: .ref h :: st) n c q M o := k_st hK hi (Or.inr ⟨ci, k, fs, by rw [how]; exact hf, hci, ho, hk, hv, by rw [hfs]; exact hh⟩)
theorem k_diald (hK : dp_clo X call d y Q K) {len h m : Nat} {g : Nat → Int32} {i : Int32} (v : Int32) (j : Nat) (hi : dp_tab y pc = (.iaload, len)) (ho : o h = some (.inr (.inl (false, m, g)))) (hm : m < 2 ^ 31) (hij : i = nI j) (hj : j < m) (hv : g j = v) (hh : K (pc + 1) L (.int v :: st) n c q M o) : K pc L (.int i :: .ref h :: st) n c q M o := k_st hK hi (by
  subst hij
  refine Or.inr (Or.inr ⟨m, g, ho, vp_in_nI hj hm, ?_⟩)
  rw [nI_clamp (by omega), hv]
  exact hh)
theorem k_diast (hK : dp_clo X call d y Q K) {len h m : Nat} {g : Nat → Int32} {i x : Int32} (j : Nat) (hi : dp_tab y pc = (.iastore, len)) (ho : o h = some (.inr (.inl (false, m, g)))) (hm : m < 2 ^ 31) (hij : i = nI j) (hj : j < m) (hh : K (pc + 1) L st n c q M (dp_ou o h (.inr (.inl (false, m, upd g j x))))) : K pc L (.int x :: .int i :: .ref h :: st) n c q M o := k_st hK hi (by
  subst hij
  refine Or.inr ⟨m, g, ho, vp_in_nI hj hm, ?_⟩
  rw [nI_clamp (by omega)]
  exact hh)
theorem k_dbald (hK : dp_clo X call d y Q K) {len h m : Nat} {g : Nat → Int32} {i : Int32} (v : Int32) (j : Nat) (hi : dp_tab y pc = (.baload, len)) (ho : o h = some (.inr (.inl (true, m, g)))) (hm : m < 2 ^ 31) (hij : i = nI j) (hj : j < m) (hv : g j = v) (hh : K (pc + 1) L (.int v :: st) n c q M o) : K pc L (.int i :: .ref h :: st) n c q M o := k_st hK hi (by
  subst hij
  refine ⟨m, g, ho, vp_in_nI hj hm, ?_⟩
  rw [nI_clamp (by omega), hv]
  exact hh)
/-- true into a row of truth values -/
theorem k_dbast (hK : dp_clo X call d y Q K) {len h m : Nat} {g : Nat → Int32} {i x : Int32} (j : Nat) (hi : dp_tab y pc = (.bastore, len)) (ho : o h = some (.inr (.inl (true, m, g)))) (hm : m < 2 ^ 31) (hij : i = nI j) (hj : j < m) (hx : x = nI 1) (hh : K (pc + 1) L st n c q M (dp_ou o h (.inr (.inl (true, m, upd g j (nI 1)))))) : K pc L (.int x :: .int i :: .ref h :: st) n c q M o := k_st hK hi (by
  subst hij
  subst hx
  refine ⟨m, g, ho, vp_in_nI hj hm, ?_⟩
  rw [nI_clamp (by omega), show vp_nar .boolean (nI 1) = nI 1 by decide +kernel]
  exact hh)
theorem k_daald (hK : dp_clo X call d y Q K) {len h m : Nat} {b : Bool} {g : Nat → Option Nat} {i : Int32} (a j : Nat) (hi : dp_tab y pc = (.aaload, len)) (ho : o h = some (.inr (.inr (b, m, g)))) (hm : m < 2 ^ 31) (hij : i = nI j) (hj : j < m) (ha : g j = some a) (hh : K (pc + 1) L (.ref a :: st) n c q M o) : K pc L (.int i :: .ref h :: st) n c q M o := k_st hK hi (by
  subst hij
  exact Or.inr ⟨b, m, g, a, ho, vp_in_nI hj hm, by rw [nI_clamp (by omega)]; exact ha, hh⟩)
theorem k_daast (hK : dp_clo X call d y Q K) {len h m v : Nat} {b : Bool} {g : Nat → Option Nat} {i : Int32} (j : Nat) (hi : dp_tab y pc = (.aastore, len)) (ho : o h = some (.inr (.inr (b, m, g)))) (hm : m < 2 ^ 31) (hij : i = nI j) (hj : j < m) (he : dp_el o b v) (hh : K (pc + 1) L st n c q M (dp_ou o h (.inr (.inr (b, m, fun k => if k = j then some v else g k))))) : K pc L (.ref v :: .int i :: .ref h :: st) n c q M o := k_st hK hi (by
  subst hij
  refine ⟨b, m, g, ho, vp_in_nI hj hm, he, ?_⟩
  rw [nI_clamp (by omega)]
  exact hh)
theorem k_dalen (hK : dp_clo X call d y Q K) {len h m : Nat} {ce : dp_Ce} (hi : dp_tab y pc = (.arraylength, len)) (ho : o h = some ce) (hm : dp_cln' ce = some m) (hh : K (pc + 1) L (.int (nI m) :: st) n c q M o) : K pc L (.ref h :: st) n c q M o := k_st hK hi (Or.inr (Or.inr ⟨ce, m, ho, hm, hh⟩))
theorem k_newI (hK : dp_clo X call d y Q K) {len mcy msy : Nat} {i : Int32} (m : Nat) (hi : dp_tab y pc = (.newarray .int, len)) (hmc : dp_mc y = mcy) (hms : dp_ms y = msy) (him : i = nI m) (hm : m ≤ 1000) (hc : c + 1 ≤ mcy) (hq : q + m ≤ msy) (hh : ∀ a : Nat, o (10000 + a) = none → K (pc + 2) L (.ref (10000 + a) :: st) n (c + 1) (q + m) M (dp_ou o (10000 + a) (.inr (.inl (false, m, fun _ => nI 0))))) : K pc L (.int i :: st) n c q M o := k_st hK hi (by
  subst him
  have e : (nI m).toNatClampNeg = m := nI_clamp (by omega)
  refine ⟨nI_pos (by omega), by rw [e]; exact hm, by rw [hmc]; exact hc, by rw [e, hms]; exact hq, fun a ha => ?_⟩
  rw [e]
  exact hh a ha)
theorem k_newZ (hK : dp_clo X call d y Q K) {len mcy msy : Nat} {i : Int32} (m : Nat) (hi : dp_tab y pc = (.newarray .boolean, len)) (hmc : dp_mc y = mcy) (hms : dp_ms y = msy) (him : i = nI m) (hm : m ≤ 1000) (hc : c + 1 ≤ mcy) (hq : q + m ≤ msy) (hh : ∀ a : Nat, o (10000 + a) = none → K (pc + 2) L (.ref (10000 + a) :: st) n (c + 1) (q + m) M (dp_ou o (10000 + a) (.inr (.inl (true, m, fun _ => nI 0))))) : K pc L (.int i :: st) n c q M o := k_st hK hi (by
  subst him
  have e : (nI m).toNatClampNeg = m := nI_clamp (by omega)
  refine ⟨nI_pos (by omega), by rw [e]; exact hm, by rw [hmc]; exact hc, by rw [e, hms]; exact hq, fun a ha => ?_⟩
  rw [e]
  exact hh a ha)
theorem k_newR (hK : dp_clo X call d y Q K) {len ow k mcy msy : Nat} {i : Int32} (b : Bool) (m : Nat) (hi : dp_tab y pc = (.anewarray k, len)) (how : dp_ow y = ow) (han : dp_an ow k = some b) (hmc : dp_mc y = mcy) (hms : dp_ms y = msy) (him : i = nI m) (hm : m ≤ 1000) (hc : c + 1 ≤ mcy) (hq : q + m ≤ msy) (hh : ∀ a : Nat, o (10000 + a) = none → K (pc + 3) L (.ref (10000 + a) :: st) n (c + 1) (q + m) M (dp_ou o (10000 + a) (.inr (.inr (b, m, fun _ => none))))) : K pc L (.int i :: st) n c q M o := k_st hK hi (by
  subst him
  have e : (nI m).toNatClampNeg = m := nI_clamp (by omega)
  show dp_opt _ _
  rw [how, han]
  refine ⟨nI_pos (by omega), by rw [e]; exact hm, by rw [hmc]; exact hc, by rw [e, hms]; exact hq, fun a ha => ?_⟩
  rw [e]
  exact hh a ha)
theorem k_newO (hK : dp_clo X call d y Q K) {len ow k mcy msy : Nat} (ci : Nat) (hi : dp_tab y pc = (.new k, len)) (how : dp_ow y = ow) (han : dp_nw ow k = some ci) (hmc : dp_mc y = mcy) (hms : dp_ms y = msy) (hc : c + 1 ≤ mcy) (hq : q + 5 ≤ msy) (hh : ∀ a : Nat, o (10000 + a) = none → K (pc + 3) L (.ref (10000 + a) :: st) n (c + 1) (q + 5) M (dp_ou o (10000 + a) (.inl (ci, dp_df ci)))) : K pc L st n c q M o := k_st hK hi (by
  refine Or.inr ?_
  rw [how, han]
  exact ⟨by rw [hmc]; exact hc, by rw [hms]; exact hq, hh⟩)
theorem k_objI (hK : dp_clo X call d y Q K) {len ow i h : Nat} (hi : dp_tab y pc = (.invokespecial i, len)) (how : dp_ow y = ow) (hn : dp_nat ow i = some 210) (hl : st.length ≤ 4) (hh : K (pc + 3) L st n c q M o) : K pc L (.ref h :: st) n c q M o := k_st hK hi (Or.inr (Or.inr ⟨by rw [how]; exact hn, hl, hh⟩))
theorem k_areturn (hK : dp_clo X call d y Q K) {len h rk mc ms : Nat} (hi : dp_tab y pc = (.areturn, len)) (hr : dp_rk y = rk) (hr5 : rk = 5 ∨ rk = 6) (hmc : dp_mc y = mc) (hms : dp_ms y = ms) (h1 : c ≤ mc) (h2 : q ≤ ms) (hh : Q (.inl (some (.ref h))) M o) : K pc L [.ref h] n c q M o := k_st hK hi ⟨rfl, by rw [hr]; exact hr5, by rw [hmc]; exact h1, by rw [hms]; exact h2, hh⟩
theorem k_irem (hK : dp_clo X call d y Q K) {a b z : Int32} {len : Nat} (hi : dp_tab y pc = (.irem, len)) (hb : ¬ b = 0) (hz : a - a / b * b = z) (hh : K (pc + 1) L (.int z :: st) n c q M o) : K pc L (.int b :: .int a :: st) n c q M o := k_st hK hi ⟨hb, by subst hz; exact hh⟩
theorem k_ldc (hK : dp_clo X call d y Q K) {i len : Nat} {x : Int32} (hi : dp_tab y pc = (.ldc i, len)) (hv : dp_lo dp_ci (dp_ow y) i = some x) (hh : K (pc + 2) L (.int x :: st) n c q M o) : K pc L st n c q M o := k_st hK hi (by show dp_opt _ _; rw [hv]; exact hh)
theorem k_ifnn (hK : dp_clo X call d y Q K) {h len t : Nat} {off : Int} (hi : dp_tab y pc = (.ifnonnull off, len)) (ht : dp_jt pc off = t) (hh : K t L st n c q M o) : K pc L (.ref h :: st) n c q M o := k_st hK hi (by subst ht; exact hh)
end KR
