/-! What the Statement gives at the law's entry. -/
theorem st_bw : ∀ w ∈ dp_bw, w ∈ lw_tbl := by decide +kernel
theorem st_nc : ∀ e ∈ dp_nc, Cond.not (.castable e.1 e.2) ∈ flatC (Jvm.Cond.and given_1 narrow_1) := by decide +kernel
theorem st_sx : ∀ e ∈ dp_st, Cond.exactly (.string (dp_o e.1) e.2.1) "java/lang/String" ∈ flatC (Jvm.Cond.and given_1 narrow_1) := by decide +kernel
theorem st_sr : ∀ e ∈ dp_st, Cond.stringRef (dp_o e.1) e.2.1 e.2.2 ∈ lw_tbl := by decide +kernel
theorem st_z1 : Cond.isRef (.static Bundle.tN "UNASSIGNED_STACK" Bundle.steD) ∈ flatC (Jvm.Cond.and given_1 narrow_1) := by decide +kernel
theorem st_z2 : Cond.isRef (.static Bundle.tN "SUPPRESSED_SENTINEL" Bundle.listD) ∈ flatC (Jvm.Cond.and given_1 narrow_1) := by decide +kernel
theorem st_t1 : Cond.laysStatic Bundle.tN "UNASSIGNED_STACK" Bundle.steD ∈ lw_tbl := by decide +kernel
theorem st_t2 : Cond.laysStatic Bundle.tN "SUPPRESSED_SENTINEL" Bundle.listD ∈ lw_tbl := by decide +kernel
theorem st_t3 : Cond.initialized Bundle.tN ∈ lw_tbl := by decide +kernel
theorem st_k0 : ∀ w ∈ wsX00, w ∈ lw_tbl := by decide +kernel
theorem st_k1 : ∀ w ∈ wsX10, w ∈ lw_tbl := by decide +kernel
theorem st_k2 : ∀ w ∈ wsX20, w ∈ lw_tbl := by decide +kernel
theorem st_k3 : ∀ w ∈ wsX30, w ∈ lw_tbl := by decide +kernel
theorem st_k4 : ∀ w ∈ wsX40, w ∈ lw_tbl := by decide +kernel
theorem st_n0 : Cond.instantiable RX0 5 ∈ lw_tbl := by decide +kernel
theorem st_n1 : Cond.instantiable RX1 4 ∈ lw_tbl := by decide +kernel
theorem st_n2 : Cond.instantiable RX2 6 ∈ lw_tbl := by decide +kernel
theorem st_n3 : Cond.instantiable RX3 5 ∈ lw_tbl := by decide +kernel
theorem st_k5 : ∀ w ∈ wsX50, w ∈ lw_tbl := by decide +kernel
theorem st_n5 : Cond.instantiable RX5 5 ∈ lw_tbl := by decide +kernel
theorem st_n4 : Cond.instantiable RX4 5 ∈ lw_tbl := by decide +kernel
theorem st_c3 : Cond.initialized RX3 ∈ lw_tbl ∧ Cond.classLink RL 30 RX3 ∈ lw_tbl ∧ Cond.methodLink RL 101 yX3_init ∈ lw_tbl ∧ Cond.instanceMethod yX3_init ∈ lw_tbl := by decide +kernel
theorem st_aI : Cond.arrayClass .int ∈ lw_tbl := by decide +kernel
theorem st_aL : Cond.arrayClass .boolean ∈ lw_tbl := by decide +kernel
theorem st_aA : Cond.arrayOver (.array .int) ∈ lw_tbl := by decide +kernel
theorem st_aO : Cond.arrayOver (.object RX4) ∈ lw_tbl := by decide +kernel
theorem st_aB : dp_nest ∈ lw_tbl := by decide +kernel
theorem st_aN : ct_link ∈ lw_tbl := by decide +kernel
set_option maxRecDepth 20000 in
theorem st_g3 : GoodIn lw_tbl wsX3_init := goodIn_sub (by decide +kernel) (by decide +kernel)
section STF
variable {s : State} {b L : Nat} {xs : Nat → Int32}
theorem st_aoa (h : (Cond.arrayOver (.array .int)).before #[Value.ref b] s = true) : va_AOA .int s := by
  have h2 : (Cond.arrayOver (.array .int)).before #[] s = true := by
    simp only [Cond.before, Cond.holds, Cond.value] at h ⊢
    exact h
  exact h2
/-- the classes -/
theorem st_K (hts : ∀ w ∈ lw_tbl, w.before #[Value.ref b] s = true) : ∃ g : dp_G, va_K g.1 vwCl (T3 g) s := by
  obtain ⟨c0, i0, k0⟩ := u_known (C := RX0) (T := TX0) (N := 5) (n := 5) hts st_k0 (hts _ st_n0)
  obtain ⟨c1, i1, k1⟩ := u_known (C := RX1) (T := TX1) (N := 4) (n := 4) hts st_k1 (hts _ st_n1)
  obtain ⟨c2, i2, k2⟩ := u_known (C := RX2) (T := TX2) (N := 6) (n := 6) hts st_k2 (hts _ st_n2)
  obtain ⟨c3, i3, k3⟩ := u_known (C := RX3) (T := TX3) (N := 5) (n := 5) hts st_k3 (hts _ st_n3)
  obtain ⟨c4, i4, k4⟩ := u_known (C := RX4) (T := TX4) (N := 5) (n := 5) hts st_k4 (hts _ st_n4)
  obtain ⟨c5, i5, k5⟩ := u_known (C := RX5) (T := TX5) (N := 5) (n := 5) hts st_k5 (hts _ st_n5)
  obtain ⟨aI, kI, oI, f1, f2, f3⟩ := Cond.arrayClass_spec (hts _ st_aI)
  obtain ⟨aL, kL, oL, l1, l2, l3⟩ := Cond.arrayClass_spec (hts _ st_aL)
  obtain ⟨oA, aA, kA, a1, a2, a3, a4, a5⟩ := ct_aoas (st_aoa (hts _ st_aA))
  obtain ⟨oO, aO, kO, b1, b2, b3, b4, b5⟩ := Cond.arrayOver_spec (hts _ st_aO)
  refine ⟨((fun k => if k = 0 then c0 else if k = 1 then c1 else if k = 2 then c2 else if k = 3 then c3 else if k = 4 then c4 else c5, fun k => if k = 0 then i0 else if k = 1 then i1 else if k = 2 then i2 else if k = 3 then i3 else if k = 4 then i4 else i5), aI, aL, aA, aO), ?_, ?_⟩
  · intro k q hq
    match k, hq with
    | 0, hq => cases hq; exact k0
    | 1, hq => cases hq; exact k1
    | 2, hq => cases hq; exact k2
    | 3, hq => cases hq; exact k3
    | 4, hq => cases hq; exact k4
    | 5, hq => cases hq; exact k5
    | k + 6, hq => cases hq
  · intro k q hq
    match k, hq with
    | 0, hq => cases hq; exact ⟨fun n z => ⟨fun k h => (by cases h), kI, f2, oI, f3⟩, f1⟩
    | 1, hq => cases hq; exact ⟨fun n z => ⟨fun k h => (by cases h), kL, l2, oL, l3⟩, l1⟩
    | 2, hq => cases hq; exact ⟨fun n z => ⟨fun k h => (by cases h), kA, a3, oA, a4⟩, a5⟩
    | 3, hq => cases hq; exact ⟨fun n z => ⟨fun k h => (by cases h), kO, b3, oO, b4⟩, ⟨kO, oO, b3, b4, b1, b5⟩⟩
    | k + 4, hq => cases hq
theorem st_GF (hts : ∀ w ∈ lw_tbl, w.before #[Value.ref b] s = true) (hgv : (Jvm.Cond.and given_1 narrow_1).before #[Value.ref b] s = true) (hX : va_X b L xs s s.heap) (hbl : b < s.heap.size) {g : dp_G} (hK : va_K g.1 vwCl (T3 g) s) : dp_GF g (L, xs) b (lwA s) s := by
  have hs := flat_of_before _ hgv
  have hA : ∀ a : Nat, a < s.heap.size → ¬ lwA s a := fun a h => Nat.not_le.mpr h
  refine ⟨hK, vx_Zqof (hts _ st_t1) (hts _ st_t3) (hs _ st_z1) hA, vx_Zqof (hts _ st_t2) (hts _ st_t3) (hs _ st_z2) hA, hX, hbl, hA b hbl, fun w hw => va_Nw.of (List.all_eq_true.mp (show dp_bw.all Cond.onTables = true by decide +kernel) w hw) (hts w (st_bw w hw)), fun e he => va_Nc.of (hs _ (st_nc e he)), fun e he => ?_, fun q h => h, st_aoa (hts _ st_aA), va_AO.of (hts _ st_aO), va_Nw.of rfl (hts _ st_aB)⟩
  obtain ⟨a, c, cell, k, h1, -⟩ := Cond.exactly_spec (hs _ (st_sx e he))
  exact ⟨a, vk_R.of (hts _ (st_sr e he)) h1⟩
end STF
