/-! A mean is as itself; what is told of an article, a client, all, as rows. -/
theorem men_nd {p : Int32} {k : Nat} (h0 : k ≠ 0) (hk : k ≤ 96) : Jvm.FP.Core.decode Jvm.FP.Core.b64 (FP.ddiv (FP.i2d p) (FP.i2d (nI k))).toNat ≠ .nan := by
  have hz := fp_k ⟨k, by omega⟩ h0
  have hp := fp_e (fp_r (decide (p.toInt < 0)) p.toInt.natAbs 1 0)
  have hd := fp_d hp.1 hp.2
  show Jvm.FP.Core.decode Jvm.FP.Core.b64 (UInt64.ofNat (Jvm.FP.Core.encode Jvm.FP.Core.b64 (Jvm.FP.Core.quotient Jvm.FP.Core.b64 (Jvm.FP.Core.decode Jvm.FP.Core.b64 (FP.i2d p).toNat) (Jvm.FP.Core.decode Jvm.FP.Core.b64 (FP.i2d (nI k)).toNat)))).toNat ≠ .nan
  have hd : Jvm.FP.Core.decode Jvm.FP.Core.b64 (FP.i2d p).toNat ≠ .nan := hd
  have hz : fp_fz (Jvm.FP.Core.decode Jvm.FP.Core.b64 (FP.i2d (nI k)).toNat) = true := hz
  revert hd hz
  generalize Jvm.FP.Core.decode Jvm.FP.Core.b64 (FP.i2d p).toNat = x
  generalize Jvm.FP.Core.decode Jvm.FP.Core.b64 (FP.i2d (nI k)).toNat = y
  intro hd hz
  have : fp_ok (Jvm.FP.Core.quotient Jvm.FP.Core.b64 x y) := by
    cases y with
    | nan => cases hz
    | inf s => cases hz
    | fin t d r =>
      have hd0 : d ≠ 0 := by simpa [fp_fz] using hz
      cases x with
      | nan => exact absurd rfl hd
      | inf s => trivial
      | fin s c q =>
        unfold Jvm.FP.Core.quotient
        simp only [if_neg hd0]
        exact fp_r _ _ _ _
  exact fp_d (fp_e this).1 (fp_e this).2
theorem cmp_self (i : Int) : compare i i = .eq := by simp [compare, compareOfLessAndEq]
theorem ord_self {d : Jvm.FP.Core.Datum} (h : d ≠ .nan) : Jvm.FP.Core.order d d = some .eq := by
  cases d with
  | nan => exact absurd rfl h
  | inf s =>
    show some (compare _ _) = _
    rw [cmp_self]
  | fin s c q =>
    show some (compare _ _) = _
    rw [cmp_self]
theorem dcm_self {z : UInt64} (h : Jvm.FP.Core.decode Jvm.FP.Core.b64 z.toNat ≠ .nan) (e : Jvm.ClassFile.CmpOp) : Op.cmpValue (FP.dcmp z z) e = 0 := by
  have : FP.dcmp z z = some .eq := ord_self h
  rw [this]
  rfl
theorem men_cmp {s : GSt} {l : LSt} (hs : sntA s l ≤ 96) (e : Jvm.ClassFile.CmpOp) : Op.cmpValue (FP.dcmp (men s l) (if sntA s l = 0 then FP.dconst0 else FP.ddiv (FP.i2d (pdA s l)) (FP.i2d (nI (sntA s l))))) e = 0 := by
  show Op.cmpValue (FP.dcmp (men s l) (men s l)) e = 0
  refine dcm_self ?_ e
  unfold men
  by_cases h : sntA s l = 0
  · rw [if_pos h]
    decide +kernel
  · rw [if_neg h]
    exact men_nd h hs
/-- all words of the first articles with a stem -/
def alx (s : GSt) (x a : Nat) : Nat := sN a (fun b => tm s b x)
theorem alx_le {s : GSt} (hW : GW s) (x : Nat) {a : Nat} (ha : a ≤ 16) : alx s x a ≤ 192 := by
  refine Nat.le_trans (sN_le (b := 12) (fun k hk => tm_le hW (by omega) x)) ?_
  omega
theorem alx_hvn (s : GSt) (x : Nat) : decide (0 < alx s x (g_nA s)) = decide (0 < hvn s x) := sN_pos
theorem aT_0 {s : GSt} {l : LSt} {a : Nat} : aT s l a 0 = nI (g_len s a) := rfl
theorem aT_1 {s : GSt} {l : LSt} {a : Nat} : aT s l a 1 = nI (stA s a) := rfl
theorem aT_2 {s : GSt} {l : LSt} {a : Nat} : aT s l a 2 = l_age l a := rfl
theorem aT_3 {s : GSt} {l : LSt} {a : Nat} : aT s l a 3 = nI (rcv s l a) := rfl
theorem aT_row {s : GSt} {l : LSt} {a : Nat} : ∀ w, w < 4 → (if w = 3 then nI (rcv s l a) else if w = 2 then l_age l a else if w = 1 then nI (stA s a) else if w = 0 then nI (g_len s a) else nI 0) = aT s l a w := by
  intro w hw
  rcases (by omega : w = 0 ∨ w = 1 ∨ w = 2 ∨ w = 3) with rfl | rfl | rfl | rfl <;> rfl
theorem cT_row {s : GSt} {l : LSt} {c : Nat} : ∀ w, w < 6 → (if w = 5 then nI (fts s l c) else if w = 4 then l_paid l c else if w = 3 then nI (snt s l c) else if w = 2 then g_bar s c else if w = 1 then nI (g_many s c) else if w = 0 then l_coin l c else nI 0) = cT s l c w := by
  intro w hw
  rcases (by omega : w = 0 ∨ w = 1 ∨ w = 2 ∨ w = 3 ∨ w = 4 ∨ w = 5) with rfl | rfl | rfl | rfl | rfl | rfl <;> rfl
theorem nT_row {s : GSt} {l : LSt} : ∀ w, w < 7 → (if w = 6 then pdA s l else if w = 5 then nI (sntA s l) else if w = 4 then l_rnd l else if w = 3 then nI (dfs s) else if w = 2 then nI (wds s) else if w = 1 then nI (g_nC s) else if w = 0 then nI (g_nA s) else nI 0) = nT s l w := by
  intro w hw
  rcases (by omega : w = 0 ∨ w = 1 ∨ w = 2 ∨ w = 3 ∨ w = 4 ∨ w = 5 ∨ w = 6) with rfl | rfl | rfl | rfl | rfl | rfl | rfl <;> rfl
