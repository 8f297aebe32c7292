/-! How bits are counted. -/
def bc1 (m : Nat) : Nat := m - (m / 2).land 1431655765
def bc2 (v : Nat) : Nat := v.land 858993459 + (v / 4).land 858993459
def bc3 (v : Nat) : Nat := (v + v / 16).land 252645135
def bc4 (v : Nat) : Nat := v + v / 256
def bc5 (v : Nat) : Nat := v + v / 65536
def bcN (m : Nat) : Nat := bc5 (bc4 (bc3 (bc2 (bc1 m)))) % 64
def pcN (m : Nat) : Nat := m % 2 + m / 2 % 2 + m / 4 % 2 + m / 8 % 2 + m / 16 % 2 + m / 32 % 2 + m / 64 % 2 + m / 128 % 2 + m / 256 % 2 + m / 512 % 2 + m / 1024 % 2 + m / 2048 % 2 + m / 4096 % 2 + m / 8192 % 2 + m / 16384 % 2 + m / 32768 % 2
def bcU : Nat → (Nat → Bool) → Bool
  | 0, _ => true
  | n + 1, p => p n && bcU n p
theorem bcU_at {p : Nat → Bool} : ∀ {n : Nat}, bcU n p = true → ∀ k, k < n → p k = true
  | n + 1, h, k, hk => by
    rw [bcU, Bool.and_eq_true] at h
    by_cases e : k = n
    · rw [e]; exact h.1
    · exact bcU_at h.2 k (by omega)
set_option maxRecDepth 100000 in
theorem bc_all : bcU 256 (fun h => bcU 256 (fun l => Nat.beq (bcN (256 * h + l)) (pcN (256 * h + l)))) = true := by decide +kernel
theorem bc_pc {m : Nat} (h : m < 65536) : bcN m = pcN m := by
  have h1 := bcU_at bc_all (m / 256) (by omega)
  have h2 := bcU_at h1 (m % 256) (by omega)
  have h3 := Nat.eq_of_beq_eq_true h2
  rw [show 256 * (m / 256) + m % 256 = m by omega] at h3
  exact h3
theorem bit_n (m a : Nat) : (if bit m a then 1 else 0) = m / 2 ^ a % 2 := by
  unfold bit
  rw [Nat.testBit_eq_decide_div_mod_eq]
  have h2 : m / 2 ^ a % 2 = 0 ∨ m / 2 ^ a % 2 = 1 := by omega
  rcases h2 with h2 | h2 <;> simp [h2]
theorem pc_pcN (m : Nat) : pc16 m = pcN m := by
  simp only [pc16, cnt, bit_n, Nat.zero_add, Nat.pow_zero, Nat.div_one, Nat.reducePow, pcN]
theorem bc_pc16 {m : Nat} (h : m < 2 ^ 16) : bcN m = pc16 m := (bc_pc (by omega)).trans (pc_pcN m).symm
theorem nI_and {a b : Nat} : nI a &&& nI b = nI (a.land b) := by
  apply Int32.toBitVec_inj.mp
  rw [Int32.toBitVec_and]
  apply BitVec.eq_of_toNat_eq
  rw [BitVec.toNat_and]
  simp only [nI, Int32.toBitVec_ofNat, BitVec.toNat_ofNat]
  exact Nat.and_mod_two_pow.symm
theorem land_l (a b : Nat) : a.land b ≤ a := Nat.and_le_left
theorem land_r (a b : Nat) : a.land b ≤ b := Nat.and_le_right
theorem lci_265 : dp_lo dp_ci 7 265 = some (nI 1431655765) := rfl
theorem lci_266 : dp_lo dp_ci 7 266 = some (nI 858993459) := rfl
theorem lci_267 : dp_lo dp_ci 7 267 = some (nI 252645135) := rfl
