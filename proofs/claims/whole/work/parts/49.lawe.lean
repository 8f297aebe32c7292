/-! The law's own end; its body as a closure of the deep semantics. -/
section LAWE
variable {p : Program} {l : Launch} {e : Env} {s : State} {m : MethodId} {below : List Frame} {meth : Method} {c : Code} {g : dp_G} {X : dp_X} {b d : Nat} {ad0 : Nat → Nat} {d0 : Drawn}
abbrev lwA (s : State) : Nat → Prop := fun q => s.heap.size ≤ q
abbrev lwQ : dp_Q := fun r _ _ => r = .inl (some (.int (nI 1)))
theorem law_clo (C : dp_Cx p l room_1 (s.setDrawn d0) m #[Value.ref b] c g X b (lwA s) 146 11) (hd0 : s.drawn.sameBut d0 lw_cs) (hc : c.code = code) (hr : meth.sig.returnType = ret) (hlocks : meth.locks = false) :
    dp_clo X (dp_run X 10) 11 146 lwQ (dp_KW p l e room_1 (s.setDrawn d0) m #[Value.ref b] below meth c (lw_Z below #[Value.ref b] s) g b (lwA s) (dp_mL 146) 65 ad0) := by
  have C' := C
  obtain ⟨hx, hb, hml, hown, hts, htr, htab, hd1, hfr, hlo, hRc, hRs, hy, hG⟩ := C
  have hE : dp_En p l e room_1 (s.setDrawn d0) m #[Value.ref b] below meth c (lw_Z below #[Value.ref b] s) g b (lwA s) 146 65 ad0 lwQ := by
    intro v pc n cc q M o ad H locs ls h0 h1 h4 h5 h6 hisr hcc hqq hq
    have hq : (Sum.inl v : dp_R) = .inl (some (.int (nI 1))) := hq
    have hv := Sum.inl.inj hq
    subst hv
    rcases hisr with ⟨hd, hv, hk⟩ | ⟨x, hd, hv, hk⟩ | ⟨x, hd, hv, hk⟩ | ⟨x, hd, hv, hk⟩
    · cases hv
    · have hx1 : nI 1 = x := by
        cases hv
        rfl
      refine va_forget (fun z hz => h6.2.2 z hz) ?_
      refine W.widen (show cc ≤ 601024 by rw [mc_146] at hcc; exact hcc) (show q ≤ 7293034 by rw [ms_146] at hqq; exact hqq) ?_
      refine lw_ret hd0 hx hc hr hlocks ?_
      have : dp_by 146 = code := hb.symm.trans hc
      rw [← this]
      exact hd
    · cases hv
    · cases hv
  have hXX : dp_Ex p l e room_1 (s.setDrawn d0) m #[Value.ref b] below meth c (lw_Z below #[Value.ref b] s) g b (lwA s) 146 65 ad0 lwQ := by
    intro k pc n cc q M o ad H locs ls st ce q9 _ _ _ _ _ _ _ _ _ _ _ _ hq
    exact absurd hq (by intro z; cases z)
  have hN : dp_Nw p l e room_1 (s.setDrawn d0) m #[Value.ref b] below meth c (lw_Z below #[Value.ref b] s) g b (lwA s) 146 11 65 ad0 lwQ := by
    intro i pc n cc q M o ad H locs ls st _ _ _ _ _ _ _ _ _ _ _ hthr
    exact absurd hthr.2.2.2.2 (by intro z; cases z)
  exact ⟨fun pc L st n cc q M o hw => dp_step C' rfl hE hXX hN (fun z as n M o Q' hz hc => dp_met htr 10 z as n M o Q' hz hc) hw, fun b9 pc L st n cc q M o hk => dp_KW.msk hk⟩
end LAWE
