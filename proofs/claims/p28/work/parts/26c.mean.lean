/-! A quotient of whole numbers is a number. -/
def fp_ok (d : Jvm.FP.Core.Datum) : Prop := match d with
  | .nan => False
  | .inf _ => True
  | .fin _ c q => c < 2 ^ 53 ∧ -1074 ≤ q ∧ q ≤ 971
theorem fp_b (s : Bool) (c : Nat) (q : Int) (hc : c < 2 ^ 53) (hq : -1074 ≤ q) : fp_ok (Jvm.FP.Core.bound Jvm.FP.Core.b64 s c q) := by
  unfold Jvm.FP.Core.bound
  split
  · rename_i h
    exact ⟨hc, hq, h⟩
  · trivial
theorem fp_r (s : Bool) (a b : Nat) (e : Int) : fp_ok (Jvm.FP.Core.roundRatio Jvm.FP.Core.b64 s a b e) := by
  unfold Jvm.FP.Core.roundRatio
  split
  · exact ⟨by decide, by decide, by decide⟩
  · unfold Jvm.FP.Core.roundAt Jvm.FP.Core.settle
    have hq : -1074 ≤ Jvm.FP.Core.quantum Jvm.FP.Core.b64 a b e := by
      unfold Jvm.FP.Core.quantum
      exact Int.le_max_left _ _
    split
    · rename_i h
      exact fp_b _ _ _ h hq
    · exact fp_b _ _ _ (by decide) (by omega)
theorem fp_e {d : Jvm.FP.Core.Datum} (h : fp_ok d) : Jvm.FP.Core.encode Jvm.FP.Core.b64 d < 2 ^ 64 ∧ Jvm.FP.Core.encode Jvm.FP.Core.b64 d % 2 ^ 63 ≤ 0x7ff0000000000000 := by
  cases d with
  | nan => exact h.elim
  | inf s => cases s <;> decide
  | fin s c q =>
    obtain ⟨h1, h2, h3⟩ := h
    have e1 : Jvm.FP.Core.b64.tails = 4503599627370496 := by decide
    have e2 : Jvm.FP.Core.b64.exps = 2048 := by decide
    have e3 : Jvm.FP.Core.b64.qmin = -1074 := by decide
    unfold Jvm.FP.Core.encode
    simp only [Jvm.FP.Core.assemble, e1, e2, e3]
    have e4 : s.toNat ≤ 1 := by cases s <;> decide
    have e5 : (q - -1074).toNat ≤ 2045 := by omega
    split
    · omega
    · omega
theorem fp_n {n : Nat} (h1 : n < 2 ^ 64) (h2 : n % 2 ^ 63 ≤ 0x7ff0000000000000) : vf_n64 (UInt64.ofNat n) := by
  unfold vf_n64
  rw [UInt64.le_iff_toNat_le, UInt64.toNat_and, UInt64.toNat_ofNat', Nat.mod_eq_of_lt h1]
  have e1 : (0x7fffffffffffffff : UInt64).toNat = 2 ^ 63 - 1 := by decide
  have e2 : (0x7ff0000000000000 : UInt64).toNat = 0x7ff0000000000000 := by decide
  rw [e1, e2, Nat.and_two_pow_sub_one_eq_mod]
  exact h2
theorem fp_d {n : Nat} (h1 : n < 2 ^ 64) (h2 : n % 2 ^ 63 ≤ 0x7ff0000000000000) : Jvm.FP.Core.decode Jvm.FP.Core.b64 (UInt64.ofNat n).toNat ≠ .nan := by
  rw [UInt64.toNat_ofNat', Nat.mod_eq_of_lt h1]
  have e1 : Jvm.FP.Core.b64.tails = 4503599627370496 := by decide
  have e2 : Jvm.FP.Core.b64.exps = 2048 := by decide
  unfold Jvm.FP.Core.decode
  simp only [Jvm.FP.Core.fieldE, Jvm.FP.Core.fieldT, e1, e2]
  split
  · rename_i h
    split
    · intro z; cases z
    · exfalso
      omega
  · split <;> (intro z; cases z)
def fp_fz (d : Jvm.FP.Core.Datum) : Bool := match d with
  | .fin _ c _ => c != 0
  | _ => false
theorem fp_k : ∀ k : Fin 97, k.val ≠ 0 → fp_fz (Jvm.FP.Core.decode Jvm.FP.Core.b64 (FP.i2d (nI k.val)).toNat) = true := by decide +kernel
theorem men_nn {p : Int32} {k : Nat} (h0 : k ≠ 0) (hk : k ≤ 96) : vf_n64 (FP.ddiv (FP.i2d p) (FP.i2d (nI k))) := by
  have hz := fp_k ⟨k, by omega⟩ h0
  have hp := fp_e (fp_r (decide (p.toInt < 0)) p.toInt.natAbs 1 0)
  have hd := fp_d hp.1 hp.2
  show vf_n64 (UInt64.ofNat (Jvm.FP.Core.encode Jvm.FP.Core.b64 (Jvm.FP.Core.quotient Jvm.FP.Core.b64 (Jvm.FP.Core.decode Jvm.FP.Core.b64 (FP.i2d p).toNat) (Jvm.FP.Core.decode Jvm.FP.Core.b64 (FP.i2d (nI k)).toNat))))
  have hd : Jvm.FP.Core.decode Jvm.FP.Core.b64 (FP.i2d p).toNat ≠ .nan := hd
  have hz : fp_fz (Jvm.FP.Core.decode Jvm.FP.Core.b64 (FP.i2d (nI k)).toNat) = true := hz
  revert hd hz
  generalize Jvm.FP.Core.decode Jvm.FP.Core.b64 (FP.i2d p).toNat = x
  generalize Jvm.FP.Core.decode Jvm.FP.Core.b64 (FP.i2d (nI k)).toNat = y
  intro hd hz
  have : fp_ok (Jvm.FP.Core.quotient Jvm.FP.Core.b64 x y) := by
    cases y with
    | nan => cases hz
    | inf s => cases hz
    | fin t d r =>
      have hd0 : d ≠ 0 := by simpa [fp_fz] using hz
      cases x with
      | nan => exact absurd rfl hd
      | inf s => trivial
      | fin s c q =>
        unfold Jvm.FP.Core.quotient
        simp only [if_neg hd0]
        exact fp_r _ _ _ _
  exact fp_n (fp_e this).1 (fp_e this).2
