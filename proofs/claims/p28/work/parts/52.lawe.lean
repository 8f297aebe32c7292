/-! The law's own end; its body as a closure of the deep semantics. -/
section LAWE
variable {p : Program} {l : Launch} {e : Env} {s : State} {m : MethodId} {below : List Frame} {meth : Method} {c : Code} {g : dp_G} {X : dp_X} {b d : Nat} {ad : Nat → Nat} {d0 : Drawn}
abbrev lwA (s : State) : Nat → Prop := fun q => s.heap.size ≤ q
abbrev lwQ : dp_Q := fun r _ _ => r = .inl (some (.int (nI 1)))
theorem law_clo (C : dp_Cx p l room_1 (s.setDrawn d0) m #[Value.ref b] c g X b (lwA s) 77 10) (had : dp_adk ad b) (hd0 : s.drawn.sameBut d0 lw_cs) (hc : c.code = code) (hr : meth.sig.returnType = ret) (hlocks : meth.locks = false) :
    dp_clo X (dp_run X 9) 10 77 lwQ (dp_KW p l e room_1 (s.setDrawn d0) m #[Value.ref b] below meth c (lw_Z below #[Value.ref b] s) g (lwA s) (dp_mL 77) ad) := by
  have C' := C
  obtain ⟨hx, hb, hml, hown, hts, htr, htab, hd1, hfr, hlo, hRc, hRs, hy, hG⟩ := C
  have hE : dp_En p l e room_1 (s.setDrawn d0) m #[Value.ref b] below meth c (lw_Z below #[Value.ref b] s) g (lwA s) 77 ad lwQ := by
    intro v pc cc q M o ds H locs ls hrep hP hD hS hisr hcc hqq hq
    have hq : (Sum.inl v : dp_R) = .inl (some (.int (nI 1))) := hq
    have hv := Sum.inl.inj hq
    subst hv
    rcases hisr with ⟨hd, hv, hk⟩ | ⟨x, hd, hv, hk⟩ | ⟨x, hd, hv, hk⟩ | ⟨x, hd, hv, hk⟩ | ⟨x, hd, hv, hk⟩
    · cases hv
    · refine va_forget (fun z hz => hS.2.2 z hz) ?_
      refine W.widen (show cc ≤ 600172 by rw [mc_77] at hcc; exact hcc) (show q ≤ 7300668 by rw [ms_77] at hqq; exact hqq) ?_
      refine lw_ret hd0 hx hc hr hlocks ?_
      have : dp_by 77 = code := hb.symm.trans hc
      rw [← this]
      exact hd
    · cases hv
    · cases hv
    · cases hv
  have hXX : dp_Ex p l e room_1 (s.setDrawn d0) m #[Value.ref b] below meth c (lw_Z below #[Value.ref b] s) g (lwA s) 77 ad lwQ := by
    intro k pc cc q M o ds H locs ls st ce q9 _ _ _ _ _ _ _ _ _ _ hq
    exact absurd hq (by intro z; cases z)
  have hN : dp_Nw p l e room_1 (s.setDrawn d0) m #[Value.ref b] below meth c (lw_Z below #[Value.ref b] s) g (lwA s) 77 10 ad lwQ := by
    intro i pc cc q M o ds H locs ls st _ _ _ _ _ _ _ how
    exact absurd how (by rw [ow_77]; decide)
  exact ⟨fun pc L st n cc q M o hw => dp_step C' had rfl hE hXX hN (fun z as n M o Q' hz hc => dp_met htr 9 z as n M o Q' hz hc) hw, fun b9 pc L st n cc q M o hk => dp_KW.msk hk, fun pc L st n cc q cc' q' M o h1 h2 hk => dp_KW.wid h1 h2 hk⟩
end LAWE
