/-! Rows over numbers, and small facts. -/
section KN
variable {X : dp_X} {call : dp_C} {d y : Nat} {Q : dp_Q} {K : dp_K} {pc n c q : Nat} {L : dp_L} {st : List Value} {M : dp_M} {o : dp_O}
theorem k_run {as : List Value} (h : ∀ K, dp_clo X (dp_run X d) (d + 1) y Q K → K 0 (dp_args (dp_mL y) as) [] n 0 0 M o) : dp_run X (d + 1) y as n M o Q := h
theorem kn_eq (hK : dp_clo X call d y Q K) {a b : Nat} {off : Int} {len t : Nat} (ha : a < 2 ^ 31) (hb : b < 2 ^ 31) (hi : dp_tab y pc = (.if_icmp .eq off, len)) (ht : dp_jt pc off = t) (h1 : a = b → K t L st n c q M o) (h2 : ¬ a = b → K (pc + 3) L st n c q M o) : K pc L (.int (nI b) :: .int (nI a) :: st) n c q M o :=
  k_icmp_eq hK hi ht (fun z => h1 ((nI_eq ha hb).mp z)) (fun z => h2 (fun w => z ((nI_eq ha hb).mpr w)))
theorem kn_ne (hK : dp_clo X call d y Q K) {a b : Nat} {off : Int} {len t : Nat} (ha : a < 2 ^ 31) (hb : b < 2 ^ 31) (hi : dp_tab y pc = (.if_icmp .ne off, len)) (ht : dp_jt pc off = t) (h1 : a = b → K (pc + 3) L st n c q M o) (h2 : ¬ a = b → K t L st n c q M o) : K pc L (.int (nI b) :: .int (nI a) :: st) n c q M o :=
  k_icmp_ne hK hi ht (fun z => h1 ((nI_eq ha hb).mp z)) (fun z => h2 (fun w => z ((nI_eq ha hb).mpr w)))
theorem kn_lt (hK : dp_clo X call d y Q K) {a b : Nat} {off : Int} {len t : Nat} (ha : a < 2 ^ 31) (hb : b < 2 ^ 31) (hi : dp_tab y pc = (.if_icmp .lt off, len)) (ht : dp_jt pc off = t) (h1 : a < b → K t L st n c q M o) (h2 : ¬ a < b → K (pc + 3) L st n c q M o) : K pc L (.int (nI b) :: .int (nI a) :: st) n c q M o :=
  k_icmp_lt hK hi ht (fun z => h1 ((nI_ltI ha hb).mp z)) (fun z => h2 (fun w => z ((nI_ltI ha hb).mpr w)))
theorem kn_ge (hK : dp_clo X call d y Q K) {a b : Nat} {off : Int} {len t : Nat} (ha : a < 2 ^ 31) (hb : b < 2 ^ 31) (hi : dp_tab y pc = (.if_icmp .ge off, len)) (ht : dp_jt pc off = t) (h1 : a < b → K (pc + 3) L st n c q M o) (h2 : ¬ a < b → K t L st n c q M o) : K pc L (.int (nI b) :: .int (nI a) :: st) n c q M o :=
  k_icmp_ge hK hi ht (fun z => h1 ((nI_ltI ha hb).mp z)) (fun z => h2 (fun w => z ((nI_ltI ha hb).mpr w)))
theorem kn_gt (hK : dp_clo X call d y Q K) {a b : Nat} {off : Int} {len t : Nat} (ha : a < 2 ^ 31) (hb : b < 2 ^ 31) (hi : dp_tab y pc = (.if_icmp .gt off, len)) (ht : dp_jt pc off = t) (h1 : b < a → K t L st n c q M o) (h2 : ¬ b < a → K (pc + 3) L st n c q M o) : K pc L (.int (nI b) :: .int (nI a) :: st) n c q M o :=
  k_icmp_gt hK hi ht (fun z => h1 ((nI_ltI hb ha).mp z)) (fun z => h2 (fun w => z ((nI_ltI hb ha).mpr w)))
theorem kn_le (hK : dp_clo X call d y Q K) {a b : Nat} {off : Int} {len t : Nat} (ha : a < 2 ^ 31) (hb : b < 2 ^ 31) (hi : dp_tab y pc = (.if_icmp .le off, len)) (ht : dp_jt pc off = t) (h1 : b < a → K (pc + 3) L st n c q M o) (h2 : ¬ b < a → K t L st n c q M o) : K pc L (.int (nI b) :: .int (nI a) :: st) n c q M o :=
  k_icmp_le hK hi ht (fun z => h1 ((nI_ltI hb ha).mp z)) (fun z => h2 (fun w => z ((nI_ltI hb ha).mpr w)))
theorem kz_eq (hK : dp_clo X call d y Q K) {a : Nat} {off : Int} {len t : Nat} (ha : a < 2 ^ 31) (hi : dp_tab y pc = (.ifCond .eq off, len)) (ht : dp_jt pc off = t) (h1 : a = 0 → K t L st n c q M o) (h2 : ¬ a = 0 → K (pc + 3) L st n c q M o) : K pc L (.int (nI a) :: st) n c q M o :=
  k_if_eq hK hi ht (fun z => h1 ((nI_eq ha (by decide)).mp z)) (fun z => h2 (fun w => z ((nI_eq ha (by decide)).mpr w)))
theorem kz_ne (hK : dp_clo X call d y Q K) {a : Nat} {off : Int} {len t : Nat} (ha : a < 2 ^ 31) (hi : dp_tab y pc = (.ifCond .ne off, len)) (ht : dp_jt pc off = t) (h1 : a = 0 → K (pc + 3) L st n c q M o) (h2 : ¬ a = 0 → K t L st n c q M o) : K pc L (.int (nI a) :: st) n c q M o :=
  k_if_ne hK hi ht (fun z => h1 ((nI_eq ha (by decide)).mp z)) (fun z => h2 (fun w => z ((nI_eq ha (by decide)).mpr w)))
theorem kz_lt (hK : dp_clo X call d y Q K) {a : Nat} {off : Int} {len t : Nat} (ha : a < 2 ^ 31) (hi : dp_tab y pc = (.ifCond .lt off, len)) (ht : dp_jt pc off = t) (h2 : K (pc + 3) L st n c q M o) : K pc L (.int (nI a) :: st) n c q M o :=
  k_if_lt hK hi ht (fun z => absurd z (nI_pos ha)) (fun _ => h2)
theorem kz_ge (hK : dp_clo X call d y Q K) {a : Nat} {off : Int} {len t : Nat} (ha : a < 2 ^ 31) (hi : dp_tab y pc = (.ifCond .ge off, len)) (ht : dp_jt pc off = t) (h2 : K t L st n c q M o) : K pc L (.int (nI a) :: st) n c q M o :=
  k_if_ge hK hi ht (fun z => absurd z (nI_pos ha)) (fun _ => h2)
theorem kz_gt (hK : dp_clo X call d y Q K) {a : Nat} {off : Int} {len t : Nat} (ha : a < 2 ^ 31) (hi : dp_tab y pc = (.ifCond .gt off, len)) (ht : dp_jt pc off = t) (h1 : 0 < a → K t L st n c q M o) (h2 : ¬ 0 < a → K (pc + 3) L st n c q M o) : K pc L (.int (nI a) :: st) n c q M o :=
  k_if_gt hK hi ht (fun z => h1 ((nI_ltI (by decide) ha).mp z)) (fun z => h2 (fun w => z ((nI_ltI (by decide) ha).mpr w)))
theorem kz_le (hK : dp_clo X call d y Q K) {a : Nat} {off : Int} {len t : Nat} (ha : a < 2 ^ 31) (hi : dp_tab y pc = (.ifCond .le off, len)) (ht : dp_jt pc off = t) (h1 : 0 < a → K (pc + 3) L st n c q M o) (h2 : ¬ 0 < a → K t L st n c q M o) : K pc L (.int (nI a) :: st) n c q M o :=
  k_if_le hK hi ht (fun z => h1 ((nI_ltI (by decide) ha).mp z)) (fun z => h2 (fun w => z ((nI_ltI (by decide) ha).mpr w)))
theorem k_ialdv (hK : dp_clo X call d y Q K) {len h : Nat} {i v : Int32} (j : Nat) (hi : dp_tab y pc = (.iaload, len)) (hA : dp_isA h = true) (hn : h < n) (h1 : h ≠ 1000) (hij : i = nI j) (hj : j < dp_len h) (hv : M h j = v) (hh : K (pc + 1) L (.int v :: st) n c q M o) : K pc L (.int i :: .ref h :: st) n c q M o := k_iald hK j hi hA hn h1 hij hj (by rw [hv]; exact hh)
theorem k_eq {L' : dp_L} {st' : List Value} {M' : dp_M} (h : K pc L' st' n c q M' o) (e1 : L' = L) (e2 : st' = st) (e3 : M' = M) : K pc L st n c q M o := by subst e1; subst e2; subst e3; exact h
end KN
theorem dp_isA_t (h : Nat) (h1 : 27 ≤ h) : dp_isA h = true := by
  simp only [dp_isA, Bool.not_eq_true', Bool.or_eq_false_iff, beq_eq_false_iff_ne]
  omega
theorem dpl_27 (a : Nat) (h : a < 16) : dp_len (27 + a) = 12 := by
  unfold dp_len
  rw [if_neg (by omega), if_pos (by omega)]
theorem dpl_43 (a : Nat) (h : a < 16) : dp_len (43 + a) = 20 := by
  unfold dp_len
  rw [if_neg (by omega), if_neg (by omega), if_pos (by omega)]
theorem dpl_59 (a : Nat) (h : a < 6) : dp_len (59 + a) = 5 := by
  unfold dp_len
  rw [if_neg (by omega), if_neg (by omega), if_neg (by omega), if_pos (by omega)]
theorem dpl_5 : dp_len 5 = 5 := rfl
theorem dpl_6 : dp_len 6 = 40 := rfl
theorem dpl_8 : dp_len 8 = 16 := rfl
theorem dpl_10 : dp_len 10 = 20 := rfl
theorem dpl_12 : dp_len 12 = 6 := rfl
theorem dpl_13 : dp_len 13 = 6 := rfl
theorem dpl_14 : dp_len 14 = 16 := rfl
theorem dpl_15 : dp_len 15 = 6 := rfl
theorem dpl_16 : dp_len 16 = 6 := rfl
theorem dpl_17 : dp_len 17 = 6 := rfl
theorem dpl_18 : dp_len 18 = 16 := rfl
theorem dpl_19 : dp_len 19 = 6 := rfl
theorem dpl_20 : dp_len 20 = 6 := rfl
theorem dpl_21 : dp_len 21 = 6 := rfl
theorem dp_up_s (M : dp_M) (h k : Nat) (x : Int32) : dp_up M h k x h k = x := by simp [dp_up]
theorem dp_up_k {M : dp_M} {h k a j : Nat} {x : Int32} (e : j ≠ k) : dp_up M h k x a j = M a j := by simp [dp_up, e]
theorem dp_up_h {M : dp_M} {h k a j : Nat} {x : Int32} (e : a ≠ h) : dp_up M h k x a j = M a j := by simp [dp_up, e]
theorem dp_row_at (M : dp_M) (h : Nat) (f : Nat → Int32) (j : Nat) : dp_row M h f h j = f j := by simp [dp_row]
theorem dp_row_ne {M : dp_M} {h a : Nat} {f : Nat → Int32} {j : Nat} (e : a ≠ h) : dp_row M h f a j = M a j := by simp [dp_row, e]
/-- sums -/
def sm : Nat → (Nat → Int32) → Int32
  | 0, _ => nI 0
  | n + 1, f => sm n f + f n
theorem sm_congr {f g : Nat → Int32} : ∀ {n : Nat}, (∀ k, k < n → f k = g k) → sm n f = sm n g
  | 0, _ => rfl
  | n + 1, h => by rw [sm, sm, sm_congr (fun k hk => h k (by omega)), h n (by omega)]
theorem nI_zero_add (x : Int32) : nI 0 + x = x := by rw [nI_0]; exact Int32.zero_add x
theorem nI_add_zero (x : Int32) : x + nI 0 = x := by rw [nI_0]; exact Int32.add_zero x
theorem sm_zero {f : Nat → Int32} : ∀ {n : Nat}, (∀ k, k < n → f k = nI 0) → sm n f = nI 0
  | 0, _ => rfl
  | n + 1, h => by rw [sm, sm_zero (fun k hk => h k (by omega)), h n (by omega)]; exact nI_add_zero _
theorem sm_add {f : Nat → Int32} {a : Nat} : ∀ {b : Nat}, sm (a + b) f = sm a f + sm b (fun k => f (a + k))
  | 0 => by rw [sm, nI_add_zero]; rfl
  | b + 1 => by rw [show a + (b + 1) = (a + b) + 1 by omega, sm, sm, sm_add, Int32.add_assoc]
section KV
variable {X : dp_X} {call : dp_C} {d y : Nat} {Q : dp_Q} {K : dp_K} {pc n c q : Nat} {L : dp_L} {st : List Value} {M : dp_M} {o : dp_O}
theorem k_geti (hK : dp_clo X call d y Q K) {i len h ow ci k : Nat} {fs : List Value} {w : Int32} (v : Int32) (hi : dp_tab y pc = (.getfield i, len)) (how : dp_ow y = ow) (hf : dp_fld ow i = some (ci, k)) (hn : h < n) (ho : dp_obj M h = some (ci, fs)) (hv : dp_gtv fs k = some (.int w)) (e : w = v) (hh : K (pc + 3) L (.int v :: st) n c q M o) : K pc L (.ref h :: st) n c q M o := k_get hK hi how hf hn ho hv (by rw [e]; exact hh)
theorem k_aftv {w : Int32} (v : Int32) {st' : List Value} (e : w = v) (h : dp_aft y Q K pc L st' n c q (.inl (some (.int v))) M o) : dp_aft y Q K pc L st' n c q (.inl (some (.int w))) M o := by rw [e]; exact h
theorem k_minv (hK : dp_clo X call d y Q K) {i len ow mcy msy : Nat} {a b : Int32} (v : Int32) (hi : dp_tab y pc = (.invokestatic i, len)) (how : dp_ow y = ow) (hnt : dp_nat ow i = some 200) (hmc : dp_mc y = mcy) (hms : dp_ms y = msy) (hl : st.length ≤ 4) (hc : c ≤ mcy) (hq : q ≤ msy) (hv : (if b < a then b else a) = v) (hh : K (pc + 3) L (.int v :: st) n c q M o) : K pc L (.int b :: .int a :: st) n c q M o := k_min hK hi how hnt hmc hms hl hc hq (by rw [hv]; exact hh)
theorem k_maxv (hK : dp_clo X call d y Q K) {i len ow mcy msy : Nat} {a b : Int32} (v : Int32) (hi : dp_tab y pc = (.invokestatic i, len)) (how : dp_ow y = ow) (hnt : dp_nat ow i = some 201) (hmc : dp_mc y = mcy) (hms : dp_ms y = msy) (hl : st.length ≤ 4) (hc : c ≤ mcy) (hq : q ≤ msy) (hv : (if a < b then b else a) = v) (hh : K (pc + 3) L (.int v :: st) n c q M o) : K pc L (.int b :: .int a :: st) n c q M o := k_max hK hi how hnt hmc hms hl hc hq (by rw [hv]; exact hh)
end KV
