/-! A step of the law: on its own bureau and on the class's. (written by wip/p28/sim4.py) -/
theorem it_s {f : Nat → Nat} {i k : Nat} : (if k = i then f i else f k) = f k := by
  by_cases e : k = i
  · rw [if_pos e, e]
  · rw [if_neg e]
set_option maxRecDepth 100000 in
set_option maxHeartbeats 4000000 in
theorem act_184 {X : dp_X} {d n : Nat} {M : dp_M} {o : dp_O} {Q : dp_Q} {K : dp_K} (h65 : 65 ≤ n) (hK : dp_clo X (dp_run X (d + 7)) (d + 7 + 1) 75 Q K) {S hs hw ha hc : Nat} {W C V B : Nat → Nat} {s : GSt} {l : LSt} (x : Int32) (a k w t : Nat) (hR : SR o S hs hw ha hc W C V B s l) (hJ : JC M s l) (ha9 : g_nA s = 0 ∨ a < g_nA s) (hk9 : g_nC s = 0 ∨ k < g_nC s) (hw9 : w < 40) (ht9 : t < 20) (h : ∀ M' o' s' l' hw' hc' W' C' V' B', AS s l s' l' → JC M' s' l' → SR o' S hs hw' ha hc' W' C' V' B' s' l' → Q (.inl (some (.int (nI 1)))) M' o') : K 184 [some (.ref 0), some (.ref S), some (.int x), some (.int (nI (g_nA s))), some (.int (nI (g_nC s))), some (.int (nI a)), some (.int (nI k)), some (.int (nI w)), some (.int (nI t)), none, none, none, none, none, none, none, none, none] [] n 0 0 M o := by
  have hW := hJ.w
  have hA16 := hW.1
  have hC6 := hW.2.1
  have hst := hW.2.2.1 w hw9
  refine k_aload_n hK ti_75_184 rfl ?_
  refine n_get hK (.ref hs) ti_75_185 ow_75 fd_6_25 hR.ob rfl ?_
  refine k_iload hK ti_75_188 rfl ?_
  refine n_iald hK ((nI (g_st s w))) w ti_75_190 hR.st (by omega) rfl (by omega) rfl ?_
  refine k_istore hK (L' := [some (.ref 0), some (.ref S), some (.int _), some (.int _), some (.int _), some (.int _), some (.int _), some (.int _), some (.int _), some (.int _), none, none, none, none, none, none, none, none]) ti_75_191 rfl ?_
  refine k_aload_n hK ti_75_193 rfl ?_
  refine n_get hK (.ref hs) ti_75_194 ow_75 fd_6_25 hR.ob rfl ?_
  refine k_iload hK ti_75_197 rfl ?_
  refine k_iload hK ti_75_199 rfl ?_
  refine n_iast hK w ti_75_201 hR.st (by omega) rfl (by omega) (fun o_201 w_201 a_201 => ?_)
  have hR1 := hR.sst w_201 a_201
  refine k_aload_n hK ti_75_202 rfl ?_
  refine k_iload hK ti_75_203 rfl ?_
  refine k_iload hK ti_75_205 rfl ?_
  refine k_callV hK (as := [.int _, .int _]) (st' := []) ti_75_207 ow_75 iv_6_29 mc_75 ms_75 rfl rfl (by omega) (Nat.le_of_ble_eq_true rfl) (Nat.le_of_ble_eq_true rfl) (by omega) (by omega) (by omega) rfl ?_
  refine cf_setStem (by omega) w t hJ (by omega) (by omega) (fun M_207 hJ1 => ?_)
  refine k_iload hK ti_75_210 rfl ?_
  refine kn_ne hK (by omega) (by omega) ti_75_212 jt_212_7 (fun c_212 => ?_) (fun c_212 => ?_)
  · refine k_iconst hK ti_75_215 kI_1 ?_
    refine k_goto hK ti_75_216 jt_216_4 ?_
    refine k_zreturn hK ti_75_220 rk_75 mc_75 ms_75 (by omega) (by omega) (by decide) ?_
    exact h _ _ _ _ _ _ _ _ _ _ (Or.inr (Or.inl ⟨w, t, rfl, rfl⟩)) hJ1 hR1
  · exact absurd rfl c_212

set_option maxRecDepth 100000 in
set_option maxHeartbeats 4000000 in
theorem act_221 {X : dp_X} {d n : Nat} {M : dp_M} {o : dp_O} {Q : dp_Q} {K : dp_K} (h65 : 65 ≤ n) (hK : dp_clo X (dp_run X (d + 7)) (d + 7 + 1) 75 Q K) {S hs hw ha hc : Nat} {W C V B : Nat → Nat} {s : GSt} {l : LSt} (x : Int32) (a k w t : Nat) (hR : SR o S hs hw ha hc W C V B s l) (hJ : JC M s l) (ha9 : g_nA s = 0 ∨ a < g_nA s) (hk9 : g_nC s = 0 ∨ k < g_nC s) (hw9 : w < 40) (ht9 : t < 20) (h : ∀ M' o' s' l' hw' hc' W' C' V' B', AS s l s' l' → JC M' s' l' → SR o' S hs hw' ha hc' W' C' V' B' s' l' → Q (.inl (some (.int (nI 1)))) M' o') : K 221 [some (.ref 0), some (.ref S), some (.int x), some (.int (nI (g_nA s))), some (.int (nI (g_nC s))), some (.int (nI a)), some (.int (nI k)), some (.int (nI w)), some (.int (nI t)), none, none, none, none, none, none, none, none, none] [] n 0 0 M o := by
  have hW := hJ.w
  have hA16 := hW.1
  have hC6 := hW.2.1
  refine k_iload_n hK ti_75_221 rfl ?_
  refine k_bipush hK ti_75_222 kB_16 ?_
  refine kn_ne hK (by omega) (by omega) ti_75_224 jt_224_5 (fun c_224 => ?_) (fun c_224 => ?_)
  · refine k_iconst hK ti_75_227 kI_1 ?_
    refine k_zreturn hK ti_75_228 rk_75 mc_75 ms_75 (by omega) (by omega) (by decide) ?_
    exact h _ _ _ _ _ _ _ _ _ _ (Or.inl ⟨rfl, rfl⟩) hJ hR
  · have hb : g_nA s < 16 := by omega
    refine k_iload_n hK ti_75_229 rfl ?_
    refine k_iconst hK ti_75_230 kI_1 ?_
    refine k_iadd hK (z := (nI (g_nA s + 1))) ti_75_231 (nI_add _ _) ?_
    refine n_newR hK false (g_nA s + 1) ti_75_232 ow_75 rfl mc_75 ms_75 rfl (by omega) (by omega) (by omega) (fun p o_232 f_232 k_232 a_232 => ?_)
    have hR0 := hR
    have hp := a_232
    refine k_astore hK (L' := [some (.ref 0), some (.ref S), some (.int _), some (.int _), some (.int _), some (.int _), some (.int _), some (.int _), some (.int _), none, some (.ref p), none, none, none, none, none, none, none]) ti_75_235 rfl ?_
    refine k_iconst hK ti_75_237 kI_0 ?_
    refine k_istore hK (L' := [some (.ref 0), some (.ref S), some (.int _), some (.int _), some (.int _), some (.int _), some (.int _), some (.int _), some (.int _), none, some (.ref p), some (.int _), none, none, none, none, none, none]) ti_75_238 rfl ?_
    have loop : ∀ (f i : Nat) (o1 : dp_O), i ≤ (g_nA s) → (g_nA s) - i < f → (Kp o o1) → (RP o1 false p (g_nA s + 1) i W) → K 240 [some (.ref 0), some (.ref S), some (.int x), some (.int (nI (g_nA s))), some (.int (nI (g_nC s))), some (.int (nI a)), some (.int (nI k)), some (.int (nI w)), some (.int (nI t)), none, some (.ref p), some (.int (nI i)), none, none, none, none, none, none] [] n (0 + 1) (0 + (g_nA s + 1)) M o1 := by
      intro f
      induction f with
      | zero => intro i o1 h1 h2; omega
      | succ f ih =>
        intro i o1 h1 h2 hk hp
        have hR := hR0.kp hk
        refine k_iload hK ti_75_240 rfl ?_
        refine k_iload_n hK ti_75_242 rfl ?_
        refine kn_ge hK (by omega) (by omega) ti_75_243 jt_243_21 (fun c_243 => ?_) (fun c_243 => ?_)
        · refine k_aload hK ti_75_246 rfl ?_
          refine k_iload hK ti_75_248 rfl ?_
          refine k_aload_n hK ti_75_250 rfl ?_
          refine n_get hK (.ref hw) ti_75_251 ow_75 fd_6_9 hR.ob rfl ?_
          refine k_iload hK ti_75_254 rfl ?_
          refine n_aald hK i ti_75_256 hR.rw (by omega) rfl (by omega) ?_
          refine n_aast hK i ti_75_257 hp (by omega) rfl (by omega) (by omega) (el_I (hR.wd i (by omega))) (fun o_257 w_257 a_257 => ?_)
          refine k_iinc hK (L' := [some (.ref 0), some (.ref S), some (.int _), some (.int _), some (.int _), some (.int _), some (.int _), some (.int _), some (.int _), none, some (.ref p), some (.int (nI (i + 1))), none, none, none, none, none, none]) ti_75_258 rfl (by rw [kI_1, nI_add]) rfl ?_
          refine k_goto hK ti_75_261 jt_261_m21 ?_
          exact ih (i + 1) _ (by omega) (by omega) (hk.wr f_232 w_257) (a_257.next (by omega) (fun _ _ => it_s))
        · obtain rfl : i = g_nA s := by omega
          refine k_aload hK ti_75_264 rfl ?_
          refine k_iload_n hK ti_75_266 rfl ?_
          refine k_iconst hK ti_75_267 kI_0 ?_
          refine n_newI hK 0 ti_75_268 mc_75 ms_75 rfl (by omega) (by omega) (by omega) (fun r o_268 f_268 k_268 a_268 => ?_)
          have n_p : o p = none := f_232
          have d_pr : p ≠ r := sm_ne hp.sm f_268
          have hr1 : r ≠ hs ∧ r ≠ ha := ⟨(sm_ne hR.st.sm f_268).symm, (sm_ne hR.age.sm f_268).symm⟩
          replace hp := hp.kp k_268
          replace hk := hk.trans k_268
          refine n_aast hK (g_nA s) ti_75_270 hp (by omega) rfl (by omega) (by omega) (el_I a_268) (fun o_270 w_270 a_270 => ?_)
          replace hk := hk.wr n_p w_270
          have hR2 := hR0.kp hk
          have hp9 := a_270.to (w := fun k => if k = g_nA s then r else W k) (by omega) (fun _ _ => rfl)
          have hr9 := a_268.wr w_270 d_pr.symm
          refine k_aload_n hK ti_75_271 rfl ?_
          refine k_aload hK ti_75_272 rfl ?_
          refine n_put hK [.ref hs, .ref p, .ref ha, .ref hc, .int (l_rnd l)] ti_75_274 ow_75 fd_6_9 (Or.inr rfl) hR2.ob (Nat.le_of_ble_eq_true rfl) rfl rfl (fun o_274 w_274 a_274 => ?_)
          have hR1 := sr_prt hR2 hJ hb w_274 a_274 hp9 hr9 hr1
          refine k_aload_n hK ti_75_277 rfl ?_
          refine k_callV hK (as := []) (st' := []) ti_75_278 ow_75 iv_6_35 mc_75 ms_75 rfl rfl (by omega) (Nat.le_of_ble_eq_true rfl) (Nat.le_of_ble_eq_true rfl) (by omega) (by omega) (by omega) rfl ?_
          refine cf_print (by omega) hJ hb (fun M_278 hJ1 => ?_)
          refine k_iload_n hK ti_75_281 rfl ?_
          refine kn_ne hK (by omega) (by omega) ti_75_282 jt_282_7 (fun c_282 => ?_) (fun c_282 => ?_)
          · refine k_iconst hK ti_75_285 kI_1 ?_
            refine k_goto hK ti_75_286 jt_286_4 ?_
            refine k_zreturn hK ti_75_290 rk_75 mc_75 ms_75 (by omega) (by omega) (by decide) ?_
            exact h _ _ _ _ _ _ _ _ _ _ (Or.inr (Or.inr (Or.inl ⟨hb, rfl, rfl⟩))) hJ1 hR1
          · exact absurd rfl c_282
    exact loop ((g_nA s) - 0 + 1) 0 _ (by omega) (by omega) k_232 (a_232.next (Nat.le_refl _) (fun k hk => absurd hk (Nat.not_lt_zero k)))

set_option maxRecDepth 100000 in
set_option maxHeartbeats 4000000 in
theorem act_291 {X : dp_X} {d n : Nat} {M : dp_M} {o : dp_O} {Q : dp_Q} {K : dp_K} (h65 : 65 ≤ n) (hK : dp_clo X (dp_run X (d + 7)) (d + 7 + 1) 75 Q K) {S hs hw ha hc : Nat} {W C V B : Nat → Nat} {s : GSt} {l : LSt} (x : Int32) (a k w t : Nat) (hR : SR o S hs hw ha hc W C V B s l) (hJ : JC M s l) (ha9 : g_nA s = 0 ∨ a < g_nA s) (hk9 : g_nC s = 0 ∨ k < g_nC s) (hw9 : w < 40) (ht9 : t < 20) (h : ∀ M' o' s' l' hw' hc' W' C' V' B', AS s l s' l' → JC M' s' l' → SR o' S hs hw' ha hc' W' C' V' B' s' l' → Q (.inl (some (.int (nI 1)))) M' o') : K 291 [some (.ref 0), some (.ref S), some (.int x), some (.int (nI (g_nA s))), some (.int (nI (g_nC s))), some (.int (nI a)), some (.int (nI k)), some (.int (nI w)), some (.int (nI t)), none, none, none, none, none, none, none, none, none] [] n 0 0 M o := by
  have hW := hJ.w
  have hA16 := hW.1
  have hC6 := hW.2.1
  refine k_iload_n hK ti_75_291 rfl ?_
  refine kz_eq hK (by omega) ti_75_292 jt_292_14 (fun c_292 => ?_) (fun c_292 => ?_)
  · refine k_iconst hK ti_75_306 kI_1 ?_
    refine k_zreturn hK ti_75_307 rk_75 mc_75 ms_75 (by omega) (by omega) (by decide) ?_
    exact h _ _ _ _ _ _ _ _ _ _ (Or.inl ⟨rfl, rfl⟩) hJ hR
  · have ha8 : a < g_nA s := by omega
    have hlen := hW.2.2.2.1 a (by omega)
    refine k_aload_n hK ti_75_295 rfl ?_
    refine n_get hK (.ref hw) ti_75_296 ow_75 fd_6_9 hR.ob rfl ?_
    refine k_iload hK ti_75_299 rfl ?_
    refine n_aald hK a ti_75_301 hR.rw (by omega) rfl (by omega) ?_
    refine n_alenI hK ti_75_302 (hR.wd a (by omega)) ?_
    refine kz_ne hK (by omega) ti_75_303 jt_303_5 (fun c_303 => ?_) (fun c_303 => ?_)
    · refine k_iconst hK ti_75_306 kI_1 ?_
      refine k_zreturn hK ti_75_307 rk_75 mc_75 ms_75 (by omega) (by omega) (by decide) ?_
      exact h _ _ _ _ _ _ _ _ _ _ (Or.inl ⟨rfl, rfl⟩) hJ hR
    · refine k_iload_n hK ti_75_308 rfl ?_
      refine k_iconst hK ti_75_309 kI_1 ?_
      refine k_ishr hK ti_75_310 rfl ?_
      refine k_aload_n hK ti_75_311 rfl ?_
      refine n_get hK (.ref hw) ti_75_312 ow_75 fd_6_9 hR.ob rfl ?_
      refine k_iload hK ti_75_315 rfl ?_
      refine n_aald hK a ti_75_317 hR.rw (by omega) rfl (by omega) ?_
      refine n_alenI hK ti_75_318 (hR.wd a (by omega)) ?_
      refine k_callS hK (as := [.int _, .int _]) (st' := []) ti_75_319 ow_75 iv_6_19 mc_75 ms_75 rfl rfl (by omega) (Nat.le_of_ble_eq_true rfl) (Nat.le_of_ble_eq_true rfl) (by omega) (by omega) ?_
      refine sp_L_below (by omega) _ (g_len s a) (by omega) (by omega) (fun p hb_p => ?_)
      have hwd := hW.2.2.2.2.1 a p (by omega) (by omega)
      refine k_istore hK (L' := [some (.ref 0), some (.ref S), some (.int _), some (.int _), some (.int _), some (.int _), some (.int _), some (.int _), some (.int _), none, none, some (.int _), none, none, none, none, none, none]) ti_75_322 rfl ?_
      refine k_aload_n hK ti_75_324 rfl ?_
      refine n_get hK (.ref hw) ti_75_325 ow_75 fd_6_9 hR.ob rfl ?_
      refine k_iload hK ti_75_328 rfl ?_
      refine n_aald hK a ti_75_330 hR.rw (by omega) rfl (by omega) ?_
      refine k_iload hK ti_75_331 rfl ?_
      refine n_iald hK ((nI (g_wd s a p))) p ti_75_333 (hR.wd a (by omega)) (by omega) rfl (by omega) rfl ?_
      refine k_istore hK (L' := [some (.ref 0), some (.ref S), some (.int _), some (.int _), some (.int _), some (.int _), some (.int _), some (.int _), some (.int _), none, none, some (.int _), some (.int _), none, none, none, none, none]) ti_75_334 rfl ?_
      refine k_aload_n hK ti_75_336 rfl ?_
      refine n_get hK (.ref hw) ti_75_337 ow_75 fd_6_9 hR.ob rfl ?_
      refine k_iload hK ti_75_340 rfl ?_
      refine k_aload_n hK ti_75_342 rfl ?_
      refine n_get hK (.ref hw) ti_75_343 ow_75 fd_6_9 hR.ob rfl ?_
      refine k_iload hK ti_75_346 rfl ?_
      refine n_aald hK a ti_75_348 hR.rw (by omega) rfl (by omega) ?_
      refine k_iload hK ti_75_349 rfl ?_
      refine k_callS hK (as := [.ref (W a), .int _]) (st' := [.int _, .ref hw]) ti_75_351 ow_75 iv_6_39 mc_75 ms_75 rfl rfl (by omega) (Nat.le_of_ble_eq_true rfl) (Nat.le_of_ble_eq_true rfl) (by omega) (by omega) ?_
      refine sp_L_less (by omega) (W a) (g_len s a) p (fun k => nI (g_wd s a k)) (by omega) (by omega) (hR.wd a (by omega)) (fun r o_351 f_351 k_351 a_351 => ?_)
      have hR0 := hR
      replace hR := hR.kp k_351
      refine n_aast hK a ti_75_354 hR.rw.rp (by omega) rfl (by omega) (by omega) (el_I a_351) (fun o_354 w_354 a_354 => ?_)
      have hR1 := sr_stk hR ha8 w_354 (a_354.to (w := fun k => if k = a then r else W k) (by omega) (fun _ _ => rfl)) a_351 ⟨(sm_ne hR0.st.sm f_351).symm, (sm_ne hR0.age.sm f_351).symm⟩
      refine k_aload_n hK ti_75_355 rfl ?_
      refine k_iload hK ti_75_356 rfl ?_
      refine k_iload hK ti_75_358 rfl ?_
      refine k_callV hK (as := [.int _, .int _]) (st' := []) ti_75_360 ow_75 iv_6_43 mc_75 ms_75 rfl rfl (by omega) (Nat.le_of_ble_eq_true rfl) (Nat.le_of_ble_eq_true rfl) (by omega) (by omega) (by omega) rfl ?_
      refine cf_strike (by omega) a p hJ (by omega) (by omega) (fun M_360 hJ1 => ?_)
      refine k_iload hK ti_75_363 rfl ?_
      refine kn_ne hK (by omega) (by omega) ti_75_365 jt_365_7 (fun c_365 => ?_) (fun c_365 => ?_)
      · refine k_iconst hK ti_75_368 kI_1 ?_
        refine k_goto hK ti_75_369 jt_369_4 ?_
        refine k_zreturn hK ti_75_373 rk_75 mc_75 ms_75 (by omega) (by omega) (by decide) ?_
        exact h _ _ _ _ _ _ _ _ _ _ (Or.inr (Or.inr (Or.inr (Or.inr (Or.inl ⟨a, p, rfl, rfl⟩))))) hJ1 hR1
      · exact absurd rfl c_365

set_option maxRecDepth 100000 in
set_option maxHeartbeats 4000000 in
theorem act_374 {X : dp_X} {d n : Nat} {M : dp_M} {o : dp_O} {Q : dp_Q} {K : dp_K} (h65 : 65 ≤ n) (hK : dp_clo X (dp_run X (d + 7)) (d + 7 + 1) 75 Q K) {S hs hw ha hc : Nat} {W C V B : Nat → Nat} {s : GSt} {l : LSt} (x : Int32) (a k w t : Nat) (hR : SR o S hs hw ha hc W C V B s l) (hJ : JC M s l) (ha9 : g_nA s = 0 ∨ a < g_nA s) (hk9 : g_nC s = 0 ∨ k < g_nC s) (hw9 : w < 40) (ht9 : t < 20) (h : ∀ M' o' s' l' hw' hc' W' C' V' B', AS s l s' l' → JC M' s' l' → SR o' S hs hw' ha hc' W' C' V' B' s' l' → Q (.inl (some (.int (nI 1)))) M' o') : K 374 [some (.ref 0), some (.ref S), some (.int x), some (.int (nI (g_nA s))), some (.int (nI (g_nC s))), some (.int (nI a)), some (.int (nI k)), some (.int (nI w)), some (.int (nI t)), none, none, none, none, none, none, none, none, none] [] n 0 0 M o := by
  have hW := hJ.w
  have hA16 := hW.1
  have hC6 := hW.2.1
  refine k_iload hK ti_75_374 rfl ?_
  refine k_bipush hK ti_75_376 kB_6 ?_
  refine kn_ne hK (by omega) (by omega) ti_75_378 jt_378_5 (fun c_378 => ?_) (fun c_378 => ?_)
  · refine k_iconst hK ti_75_381 kI_1 ?_
    refine k_zreturn hK ti_75_382 rk_75 mc_75 ms_75 (by omega) (by omega) (by decide) ?_
    exact h _ _ _ _ _ _ _ _ _ _ (Or.inl ⟨rfl, rfl⟩) hJ hR
  · have hb : g_nC s < 6 := by omega
    refine k_iload hK ti_75_383 rfl ?_
    refine k_iconst hK ti_75_385 kI_1 ?_
    refine k_iadd hK (z := (nI (g_nC s + 1))) ti_75_386 (nI_add _ _) ?_
    refine n_newR hK true (g_nC s + 1) ti_75_387 ow_75 rfl mc_75 ms_75 rfl (by omega) (by omega) (by omega) (fun p o_387 f_387 k_387 a_387 => ?_)
    have hR0 := hR
    have hp := a_387
    refine k_astore hK (L' := [some (.ref 0), some (.ref S), some (.int _), some (.int _), some (.int _), some (.int _), some (.int _), some (.int _), some (.int _), none, none, none, none, some (.ref p), none, none, none, none]) ti_75_390 rfl ?_
    refine k_iconst hK ti_75_392 kI_0 ?_
    refine k_istore hK (L' := [some (.ref 0), some (.ref S), some (.int _), some (.int _), some (.int _), some (.int _), some (.int _), some (.int _), some (.int _), none, none, none, none, some (.ref p), some (.int _), none, none, none]) ti_75_393 rfl ?_
    have loop : ∀ (f i : Nat) (o1 : dp_O), i ≤ (g_nC s) → (g_nC s) - i < f → (Kp o o1) → (RP o1 true p (g_nC s + 1) i C) → K 395 [some (.ref 0), some (.ref S), some (.int x), some (.int (nI (g_nA s))), some (.int (nI (g_nC s))), some (.int (nI a)), some (.int (nI k)), some (.int (nI w)), some (.int (nI t)), none, none, none, none, some (.ref p), some (.int (nI i)), none, none, none] [] n (0 + 1) (0 + (g_nC s + 1)) M o1 := by
      intro f
      induction f with
      | zero => intro i o1 h1 h2; omega
      | succ f ih =>
        intro i o1 h1 h2 hk hp
        have hR := hR0.kp hk
        refine k_iload hK ti_75_395 rfl ?_
        refine k_iload hK ti_75_397 rfl ?_
        refine kn_ge hK (by omega) (by omega) ti_75_399 jt_399_21 (fun c_399 => ?_) (fun c_399 => ?_)
        · refine k_aload hK ti_75_402 rfl ?_
          refine k_iload hK ti_75_404 rfl ?_
          refine k_aload_n hK ti_75_406 rfl ?_
          refine n_get hK (.ref hc) ti_75_407 ow_75 fd_6_15 hR.ob rfl ?_
          refine k_iload hK ti_75_410 rfl ?_
          refine n_aald hK i ti_75_412 hR.rc (by omega) rfl (by omega) ?_
          refine n_aast hK i ti_75_413 hp (by omega) rfl (by omega) (by omega) (el_O (hR.cl i (by omega))) (fun o_413 w_413 a_413 => ?_)
          refine k_iinc hK (L' := [some (.ref 0), some (.ref S), some (.int _), some (.int _), some (.int _), some (.int _), some (.int _), some (.int _), some (.int _), none, none, none, none, some (.ref p), some (.int (nI (i + 1))), none, none, none]) ti_75_414 rfl (by rw [kI_1, nI_add]) rfl ?_
          refine k_goto hK ti_75_417 jt_417_m22 ?_
          exact ih (i + 1) _ (by omega) (by omega) (hk.wr f_387 w_413) (a_413.next (by omega) (fun _ _ => it_s))
        · obtain rfl : i = g_nC s := by omega
          refine k_aload hK ti_75_420 rfl ?_
          refine k_iload hK ti_75_422 rfl ?_
          refine n_newO hK 4 ti_75_424 ow_75 rfl mc_75 ms_75 (by omega) (by omega) (fun c9 o_424 f_424 k_424 a_424 => ?_)
          have hO := a_424
          have n_p : o p = none := f_387
          have n_c : o c9 = none := hk.nn f_424
          have d_pc : p ≠ c9 := sm_ne hp.sm f_424
          have hc1 : ∀ i, i < g_nC s → c9 ≠ C i := fun i hi => (sm_ne (hR.cl i hi).sm f_424).symm
          have hR4 := hR.kp k_424
          have hp4 := hp.kp k_424
          refine k_dup hK ti_75_427 rfl ?_
          have mc9 := mc_59
          have ms9 := ms_59
          refine k_callN hK (as := []) (st' := [.ref c9, .int _, .ref p]) ti_75_428 ow_75 rfl mc_75 ms_75 rfl rfl (by omega) (Nat.le_of_ble_eq_true rfl) (Nat.le_of_ble_eq_true rfl) (by omega) (by omega) hO ?_
          refine sp_X4_init (by omega) c9 a_424 (fun o_428 v b f_v f_b _ k_428 a_428 v_428 b_428 => ?_)
          have hk2 : Kp o1 o_428 := fun k c e => k_428 k c (fun z => by rw [z, f_424] at e; cases e) (k_424 k c e)
          have d_pv : p ≠ v := sm_ne hp4.sm f_v
          have d_pb : p ≠ b := sm_ne hp4.sm f_b
          have hv1 : v ≠ hs ∧ v ≠ ha := ⟨(sm_ne hR4.st.sm f_v).symm, (sm_ne hR4.age.sm f_v).symm⟩
          have hb1 : ∀ i, i < g_nC s → b ≠ B i := fun i hi => (sm_ne (hR4.se i hi).sm f_b).symm
          replace hp := hp.kp hk2
          replace hk := hk.trans hk2
          replace hR := hR0.kp hk
          replace hO := a_428
          refine n_aast hK (g_nC s) ti_75_431 hp (by omega) rfl (by omega) (by omega) (el_O a_428) (fun o_431 w_431 a_431 => ?_)
          replace hk := hk.wr n_p w_431
          have hR2 := hR0.kp hk
          have hp9 := a_431.to (w := fun k => if k = g_nC s then c9 else C k) (by omega) (fun _ _ => rfl)
          replace hO := hO.wr w_431 d_pc.symm
          have hv9 := v_428.wr w_431 d_pv.symm
          have hb9 := b_428.wr w_431 d_pb.symm
          refine k_aload hK ti_75_432 rfl ?_
          refine k_iload hK ti_75_434 rfl ?_
          refine n_aald hK (g_nC s) ti_75_436 hp9 (by omega) rfl (by omega) ?_
          rw [if_pos rfl]
          refine k_iload_n hK ti_75_437 rfl ?_
          refine k_iconst hK ti_75_438 kI_1 ?_
          refine k_ishr hK ti_75_439 rfl ?_
          refine k_iload_n hK ti_75_440 rfl ?_
          refine k_bipush hK ti_75_441 kB_6 ?_
          refine k_ishr hK ti_75_443 rfl ?_
          refine k_iconst hK ti_75_444 kI_2 ?_
          refine k_callS hK (as := [.int _, .int _]) (st' := [.int _, .ref c9]) ti_75_445 ow_75 iv_6_19 mc_75 ms_75 rfl rfl (by omega) (Nat.le_of_ble_eq_true rfl) (Nat.le_of_ble_eq_true rfl) (by omega) (by omega) ?_
          refine sp_L_below (by omega) _ 2 (by omega) (by omega) (fun k2 hb_k2 => ?_)
          refine kz_ne hK (by omega) ti_75_448 jt_448_9 (fun c_448 => ?_) (fun c_448 => ?_)
          · refine k_sipush hK ti_75_451 kS_1000 ?_
            refine k_goto hK ti_75_454 jt_454_5 ?_
            refine k_callS hK (as := [.int _, .int _]) (st' := [.ref c9]) ti_75_459 ow_75 iv_6_19 mc_75 ms_75 rfl rfl (by omega) (Nat.le_of_ble_eq_true rfl) (Nat.le_of_ble_eq_true rfl) (by omega) (by omega) ?_
            refine sp_L_below (by omega) _ 1000 (by omega) (by omega) (fun kk hb_kk => ?_)
            refine n_put hK [.int (nI kk), .int (nI 20), .int 0, .ref v, .ref b] ti_75_462 ow_75 fd_6_49 (Or.inl rfl) hO (Nat.le_of_ble_eq_true rfl) rfl rfl (fun o_462 w_462 a_462 => ?_)
            have hk3 := hk.wr n_c w_462
            have hR3 := hR0.kp hk3
            have hp3 := hp9.wr w_462 d_pc
            have hv3 := hv9.wr w_462 (hv9.ne_O hO)
            have hb3 := hb9.wr w_462 (hb9.ne_O hO)
            have hO3 := a_462
            refine k_aload_n hK ti_75_465 rfl ?_
            refine k_aload hK ti_75_466 rfl ?_
            refine n_put hK [.ref hs, .ref hw, .ref ha, .ref p, .int (l_rnd l)] ti_75_468 ow_75 fd_6_15 (Or.inr rfl) hR3.ob (Nat.le_of_ble_eq_true rfl) rfl rfl (fun o_468 w_468 a_468 => ?_)
            have hR1 := sr_cli hR3 hJ hb w_468 a_468 hp3 hO3 hv3 hb3 hv1 hc1 hb1
            have hp8 := hp3.wr w_468 (hp3.ne_O hR3.ob)
            have hO9 := hO3.wr w_468 (hO3.ne_c hR3.ob)
            refine k_aload_n hK ti_75_471 rfl ?_
            refine k_aload hK ti_75_472 rfl ?_
            refine k_iload hK ti_75_474 rfl ?_
            refine n_aald hK (g_nC s) ti_75_476 hp8 (by omega) rfl (by omega) ?_
            rw [if_pos rfl]
            refine n_get hK (.int (nI kk)) ti_75_477 ow_75 fd_6_49 hO9 rfl ?_
            refine k_callV hK (as := [.int _]) (st' := []) ti_75_480 ow_75 iv_6_53 mc_75 ms_75 rfl rfl (by omega) (Nat.le_of_ble_eq_true rfl) (Nat.le_of_ble_eq_true rfl) (by omega) (by omega) (by omega) rfl ?_
            refine cf_client (by omega) kk hJ (by omega) (by omega) (fun M_480 hJ1 => ?_)
            refine k_iload hK ti_75_483 rfl ?_
            refine kn_ne hK (by omega) (by omega) ti_75_485 jt_485_7 (fun c_485 => ?_) (fun c_485 => ?_)
            · refine k_iconst hK ti_75_488 kI_1 ?_
              refine k_goto hK ti_75_489 jt_489_4 ?_
              refine k_zreturn hK ti_75_493 rk_75 mc_75 ms_75 (by omega) (by omega) (by decide) ?_
              exact h _ _ _ _ _ _ _ _ _ _ (Or.inr (Or.inr (Or.inr (Or.inr (Or.inr (Or.inl ⟨kk, by omega, hb, rfl, rfl⟩)))))) hJ1 hR1
            · exact absurd rfl c_485
          · refine k_bipush hK ti_75_457 kB_40 ?_
            refine k_callS hK (as := [.int _, .int _]) (st' := [.ref c9]) ti_75_459 ow_75 iv_6_19 mc_75 ms_75 rfl rfl (by omega) (Nat.le_of_ble_eq_true rfl) (Nat.le_of_ble_eq_true rfl) (by omega) (by omega) ?_
            refine sp_L_below (by omega) _ 40 (by omega) (by omega) (fun kk hb_kk => ?_)
            refine n_put hK [.int (nI kk), .int (nI 20), .int 0, .ref v, .ref b] ti_75_462 ow_75 fd_6_49 (Or.inl rfl) hO (Nat.le_of_ble_eq_true rfl) rfl rfl (fun o_462 w_462 a_462 => ?_)
            have hk3 := hk.wr n_c w_462
            have hR3 := hR0.kp hk3
            have hp3 := hp9.wr w_462 d_pc
            have hv3 := hv9.wr w_462 (hv9.ne_O hO)
            have hb3 := hb9.wr w_462 (hb9.ne_O hO)
            have hO3 := a_462
            refine k_aload_n hK ti_75_465 rfl ?_
            refine k_aload hK ti_75_466 rfl ?_
            refine n_put hK [.ref hs, .ref hw, .ref ha, .ref p, .int (l_rnd l)] ti_75_468 ow_75 fd_6_15 (Or.inr rfl) hR3.ob (Nat.le_of_ble_eq_true rfl) rfl rfl (fun o_468 w_468 a_468 => ?_)
            have hR1 := sr_cli hR3 hJ hb w_468 a_468 hp3 hO3 hv3 hb3 hv1 hc1 hb1
            have hp8 := hp3.wr w_468 (hp3.ne_O hR3.ob)
            have hO9 := hO3.wr w_468 (hO3.ne_c hR3.ob)
            refine k_aload_n hK ti_75_471 rfl ?_
            refine k_aload hK ti_75_472 rfl ?_
            refine k_iload hK ti_75_474 rfl ?_
            refine n_aald hK (g_nC s) ti_75_476 hp8 (by omega) rfl (by omega) ?_
            rw [if_pos rfl]
            refine n_get hK (.int (nI kk)) ti_75_477 ow_75 fd_6_49 hO9 rfl ?_
            refine k_callV hK (as := [.int _]) (st' := []) ti_75_480 ow_75 iv_6_53 mc_75 ms_75 rfl rfl (by omega) (Nat.le_of_ble_eq_true rfl) (Nat.le_of_ble_eq_true rfl) (by omega) (by omega) (by omega) rfl ?_
            refine cf_client (by omega) kk hJ (by omega) (by omega) (fun M_480 hJ1 => ?_)
            refine k_iload hK ti_75_483 rfl ?_
            refine kn_ne hK (by omega) (by omega) ti_75_485 jt_485_7 (fun c_485 => ?_) (fun c_485 => ?_)
            · refine k_iconst hK ti_75_488 kI_1 ?_
              refine k_goto hK ti_75_489 jt_489_4 ?_
              refine k_zreturn hK ti_75_493 rk_75 mc_75 ms_75 (by omega) (by omega) (by decide) ?_
              exact h _ _ _ _ _ _ _ _ _ _ (Or.inr (Or.inr (Or.inr (Or.inr (Or.inr (Or.inl ⟨kk, by omega, hb, rfl, rfl⟩)))))) hJ1 hR1
            · exact absurd rfl c_485
    exact loop ((g_nC s) - 0 + 1) 0 _ (by omega) (by omega) k_387 (a_387.next (Nat.le_refl _) (fun k hk => absurd hk (Nat.not_lt_zero k)))

set_option maxRecDepth 100000 in
set_option maxHeartbeats 4000000 in
theorem act_494 {X : dp_X} {d n : Nat} {M : dp_M} {o : dp_O} {Q : dp_Q} {K : dp_K} (h65 : 65 ≤ n) (hK : dp_clo X (dp_run X (d + 7)) (d + 7 + 1) 75 Q K) {S hs hw ha hc : Nat} {W C V B : Nat → Nat} {s : GSt} {l : LSt} (x : Int32) (a k w t : Nat) (hR : SR o S hs hw ha hc W C V B s l) (hJ : JC M s l) (ha9 : g_nA s = 0 ∨ a < g_nA s) (hk9 : g_nC s = 0 ∨ k < g_nC s) (hw9 : w < 40) (ht9 : t < 20) (h : ∀ M' o' s' l' hw' hc' W' C' V' B', AS s l s' l' → JC M' s' l' → SR o' S hs hw' ha hc' W' C' V' B' s' l' → Q (.inl (some (.int (nI 1)))) M' o') : K 494 [some (.ref 0), some (.ref S), some (.int x), some (.int (nI (g_nA s))), some (.int (nI (g_nC s))), some (.int (nI a)), some (.int (nI k)), some (.int (nI w)), some (.int (nI t)), none, none, none, none, none, none, none, none, none] [] n 0 0 M o := by
  have hW := hJ.w
  have hA16 := hW.1
  have hC6 := hW.2.1
  refine k_iload hK ti_75_494 rfl ?_
  refine kz_eq hK (by omega) ti_75_496 jt_496_18 (fun c_496 => ?_) (fun c_496 => ?_)
  · refine k_iconst hK ti_75_514 kI_1 ?_
    refine k_zreturn hK ti_75_515 rk_75 mc_75 ms_75 (by omega) (by omega) (by decide) ?_
    exact h _ _ _ _ _ _ _ _ _ _ (Or.inl ⟨rfl, rfl⟩) hJ hR
  · have hc9 : k < g_nC s := by omega
    have hm5 := hW.2.2.2.2.2.1 k (by omega)
    refine k_aload_n hK ti_75_499 rfl ?_
    refine n_get hK (.ref hc) ti_75_500 ow_75 fd_6_15 hR.ob rfl ?_
    refine k_iload hK ti_75_503 rfl ?_
    refine n_aald hK k ti_75_505 hR.rc (by omega) rfl (by omega) ?_
    refine n_get hK (.ref (V k)) ti_75_506 ow_75 fd_6_57 (hR.cl k (by omega)) rfl ?_
    refine n_alenI hK ti_75_509 (hR.wi k (by omega)) ?_
    refine k_iconst hK ti_75_510 kI_5 ?_
    refine kn_ne hK (by omega) (by omega) ti_75_511 jt_511_5 (fun c_511 => ?_) (fun c_511 => ?_)
    · refine k_iconst hK ti_75_514 kI_1 ?_
      refine k_zreturn hK ti_75_515 rk_75 mc_75 ms_75 (by omega) (by omega) (by decide) ?_
      exact h _ _ _ _ _ _ _ _ _ _ (Or.inl ⟨rfl, rfl⟩) hJ hR
    · refine k_aload_n hK ti_75_516 rfl ?_
      refine n_get hK (.ref hc) ti_75_517 ow_75 fd_6_15 hR.ob rfl ?_
      refine k_iload hK ti_75_520 rfl ?_
      refine n_aald hK k ti_75_522 hR.rc (by omega) rfl (by omega) ?_
      refine n_get hK (.ref (V k)) ti_75_523 ow_75 fd_6_57 (hR.cl k (by omega)) rfl ?_
      refine k_astore hK (L' := [some (.ref 0), some (.ref S), some (.int _), some (.int _), some (.int _), some (.int _), some (.int _), some (.int _), some (.int _), none, none, none, none, none, some (.ref (V k)), none, none, none]) ti_75_526 rfl ?_
      refine k_aload hK ti_75_528 rfl ?_
      refine n_alenI hK ti_75_530 (hR.wi k (by omega)) ?_
      refine k_istore hK (L' := [some (.ref 0), some (.ref S), some (.int _), some (.int _), some (.int _), some (.int _), some (.int _), some (.int _), some (.int _), none, none, none, none, none, some (.ref (V k)), some (.int _), none, none]) ti_75_531 rfl ?_
      refine k_iconst hK ti_75_533 kI_0 ?_
      refine k_istore hK (L' := [some (.ref 0), some (.ref S), some (.int _), some (.int _), some (.int _), some (.int _), some (.int _), some (.int _), some (.int _), none, none, none, none, none, some (.ref (V k)), some (.int _), some (.int _), none]) ti_75_534 rfl ?_
      have loop : ∀ (f i : Nat) (v17 : Option Value), i ≤ (g_many s k) → (g_many s k) - i < f → (∀ k', k' < i → g_wish s k k' ≠ t) → K 536 [some (.ref 0), some (.ref S), some (.int x), some (.int (nI (g_nA s))), some (.int (nI (g_nC s))), some (.int (nI a)), some (.int (nI k)), some (.int (nI w)), some (.int (nI t)), none, none, none, none, none, some (.ref (V k)), some (.int (nI (g_many s k))), some (.int (nI i)), v17] [] n 0 0 M o := by
        intro f
        induction f with
        | zero => intro i v17 h1 h2; omega
        | succ f ih =>
          intro i v17 h1 h2 hno
          refine k_iload hK ti_75_536 rfl ?_
          refine k_iload hK ti_75_538 rfl ?_
          refine kn_ge hK (by omega) (by omega) ti_75_540 jt_540_25 (fun c_540 => ?_) (fun c_540 => ?_)
          · have hw20 := hW.2.2.2.2.2.2 k i (by omega) c_540
            refine k_aload hK ti_75_543 rfl ?_
            refine k_iload hK ti_75_545 rfl ?_
            refine n_iald hK ((nI (g_wish s k i))) i ti_75_547 (hR.wi k (by omega)) (by omega) rfl (by omega) rfl ?_
            refine k_istore hK (L' := [some (.ref 0), some (.ref S), some (.int _), some (.int _), some (.int _), some (.int _), some (.int _), some (.int _), some (.int _), none, none, none, none, none, some (.ref (V k)), some (.int _), some (.int _), some (.int _)]) ti_75_548 rfl ?_
            refine k_iload hK ti_75_550 rfl ?_
            refine k_iload hK ti_75_552 rfl ?_
            refine kn_ne hK (by omega) (by omega) ti_75_554 jt_554_5 (fun c_554 => ?_) (fun c_554 => ?_)
            · refine k_iconst hK ti_75_557 kI_1 ?_
              refine k_zreturn hK ti_75_558 rk_75 mc_75 ms_75 (by omega) (by omega) (by decide) ?_
              exact h _ _ _ _ _ _ _ _ _ _ (Or.inl ⟨rfl, rfl⟩) hJ hR
            · refine k_iinc hK (L' := [some (.ref 0), some (.ref S), some (.int _), some (.int _), some (.int _), some (.int _), some (.int _), some (.int _), some (.int _), none, none, none, none, none, some (.ref (V k)), some (.int _), some (.int (nI (i + 1))), some (.int _)]) ti_75_559 rfl (by rw [kI_1, nI_add]) rfl ?_
              refine k_goto hK ti_75_562 jt_562_m26 ?_
              exact ih (i + 1) _ (by omega) (by omega) (fun k' h9 => by by_cases e : k' = i; (rw [e]; exact c_554); exact hno k' (by omega))
          · obtain rfl : i = g_many s k := by omega
            refine k_aload_n hK ti_75_565 rfl ?_
            refine n_get hK (.ref hc) ti_75_566 ow_75 fd_6_15 hR.ob rfl ?_
            refine k_iload hK ti_75_569 rfl ?_
            refine n_aald hK k ti_75_571 hR.rc (by omega) rfl (by omega) ?_
            refine k_aload_n hK ti_75_572 rfl ?_
            refine n_get hK (.ref hc) ti_75_573 ow_75 fd_6_15 hR.ob rfl ?_
            refine k_iload hK ti_75_576 rfl ?_
            refine n_aald hK k ti_75_578 hR.rc (by omega) rfl (by omega) ?_
            refine n_get hK (.ref (V k)) ti_75_579 ow_75 fd_6_57 (hR.cl k (by omega)) rfl ?_
            refine k_iload hK ti_75_582 rfl ?_
            refine k_callS hK (as := [.ref (V k), .int _]) (st' := [.ref (C k)]) ti_75_584 ow_75 iv_6_60 mc_75 ms_75 rfl rfl (by omega) (Nat.le_of_ble_eq_true rfl) (Nat.le_of_ble_eq_true rfl) (by omega) (by omega) ?_
            refine sp_L_more (by omega) (V k) (g_many s k) (fun i => nI (g_wish s k i)) (nI t) (by omega) (hR.wi k (by omega)) (fun r o_584 f_584 k_584 a_584 => ?_)
            have hR0 := hR
            replace hR := hR.kp k_584
            refine n_put hK [.int (l_coin l k), .int (g_bar s k), .int (l_paid l k), .ref r, .ref (B k)] ti_75_587 ow_75 fd_6_57 (Or.inl rfl) (hR.cl k (by omega)) (Nat.le_of_ble_eq_true rfl) rfl rfl (fun o_587 w_587 a_587 => ?_)
            have hr := a_584.wr w_587 (a_584.ne_O (hR.cl k hc9))
            have hR1 := sr_adds hR hc9 w_587 a_587 hr ⟨(sm_ne hR0.st.sm f_584).symm, (sm_ne hR0.age.sm f_584).symm⟩
            have hrc1 : RW _ true hc (g_nC s) C := hR1.rc
            refine k_aload_n hK ti_75_590 rfl ?_
            refine k_iload hK ti_75_591 rfl ?_
            refine k_iload hK ti_75_593 rfl ?_
            refine k_callV hK (as := [.int _, .int _]) (st' := []) ti_75_595 ow_75 iv_6_63 mc_75 ms_75 rfl rfl (by omega) (Nat.le_of_ble_eq_true rfl) (Nat.le_of_ble_eq_true rfl) (by omega) (by omega) (by omega) rfl ?_
            refine cf_want (by omega) k t hJ (by omega) (by omega) (by omega) (wsh_none (fun k' h9 => hno k' (by omega))) (fun M_595 hJ1 => ?_)
            refine k_aload_n hK ti_75_598 rfl ?_
            refine n_get hK (.ref hc) ti_75_599 ow_75 fd_6_15 hR1.ob rfl ?_
            refine k_iload hK ti_75_602 rfl ?_
            refine n_aald hK k ti_75_604 hrc1 (by omega) rfl (by omega) ?_
            refine n_get hK (.ref r) ti_75_605 ow_75 fd_6_57 a_587 rfl ?_
            refine n_alenI hK ti_75_608 hr ?_
            refine kn_ne hK (by omega) (by omega) ti_75_609 jt_609_7 (fun c_609 => ?_) (fun c_609 => ?_)
            · refine k_iconst hK ti_75_612 kI_1 ?_
              refine k_goto hK ti_75_613 jt_613_4 ?_
              refine k_zreturn hK ti_75_617 rk_75 mc_75 ms_75 (by omega) (by omega) (by decide) ?_
              exact h _ _ _ _ _ _ _ _ _ _ (Or.inr (Or.inr (Or.inr (Or.inr (Or.inr (Or.inr (Or.inl ⟨k, t, rfl, rfl⟩))))))) hJ1 hR1
            · exact absurd rfl c_609
      exact loop ((g_many s k) - 0 + 1) 0 _ (by omega) (by omega) (fun k' h9 => absurd h9 (Nat.not_lt_zero k'))

set_option maxRecDepth 100000 in
set_option maxHeartbeats 4000000 in
theorem act_618 {X : dp_X} {d n : Nat} {M : dp_M} {o : dp_O} {Q : dp_Q} {K : dp_K} (h65 : 65 ≤ n) (hK : dp_clo X (dp_run X (d + 7)) (d + 7 + 1) 75 Q K) {S hs hw ha hc : Nat} {W C V B : Nat → Nat} {s : GSt} {l : LSt} (x : Int32) (a k w t : Nat) (hR : SR o S hs hw ha hc W C V B s l) (hJ : JC M s l) (ha9 : g_nA s = 0 ∨ a < g_nA s) (hk9 : g_nC s = 0 ∨ k < g_nC s) (hw9 : w < 40) (ht9 : t < 20) (h : ∀ M' o' s' l' hw' hc' W' C' V' B', AS s l s' l' → JC M' s' l' → SR o' S hs hw' ha hc' W' C' V' B' s' l' → Q (.inl (some (.int (nI 1)))) M' o') : K 618 [some (.ref 0), some (.ref S), some (.int x), some (.int (nI (g_nA s))), some (.int (nI (g_nC s))), some (.int (nI a)), some (.int (nI k)), some (.int (nI w)), some (.int (nI t)), none, none, none, none, none, none, none, none, none] [] n 0 0 M o := by
  have hW := hJ.w
  have hA16 := hW.1
  have hC6 := hW.2.1
  refine k_iload hK ti_75_618 rfl ?_
  refine kz_ne hK (by omega) ti_75_620 jt_620_5 (fun c_620 => ?_) (fun c_620 => ?_)
  · refine k_iconst hK ti_75_623 kI_1 ?_
    refine k_zreturn hK ti_75_624 rk_75 mc_75 ms_75 (by omega) (by omega) (by decide) ?_
    exact h _ _ _ _ _ _ _ _ _ _ (Or.inl ⟨rfl, rfl⟩) hJ hR
  · have hc9 : k < g_nC s := by omega
    have hm5 := hW.2.2.2.2.2.1 k (by omega)
    refine k_iconst hK ti_75_625 kI_0 ?_
    refine k_istore hK (L' := [some (.ref 0), some (.ref S), some (.int _), some (.int _), some (.int _), some (.int _), some (.int _), some (.int _), some (.int _), none, none, none, none, none, some (.int _), none, none, none]) ti_75_626 rfl ?_
    have loop : ∀ (f i : Nat), i ≤ (g_many s k) → (g_many s k) - i < f → (∀ k', k' < i → g_wish s k k' ≠ t) → K 628 [some (.ref 0), some (.ref S), some (.int x), some (.int (nI (g_nA s))), some (.int (nI (g_nC s))), some (.int (nI a)), some (.int (nI k)), some (.int (nI w)), some (.int (nI t)), none, none, none, none, none, some (.int (nI i)), none, none, none] [] n 0 0 M o := by
      intro f
      induction f with
      | zero => intro i h1 h2; omega
      | succ f ih =>
        intro i h1 h2 hno
        refine k_iload hK ti_75_628 rfl ?_
        refine k_aload_n hK ti_75_630 rfl ?_
        refine n_get hK (.ref hc) ti_75_631 ow_75 fd_6_15 hR.ob rfl ?_
        refine k_iload hK ti_75_634 rfl ?_
        refine n_aald hK k ti_75_636 hR.rc (by omega) rfl (by omega) ?_
        refine n_get hK (.ref (V k)) ti_75_637 ow_75 fd_6_57 (hR.cl k (by omega)) rfl ?_
        refine n_alenI hK ti_75_640 (hR.wi k (by omega)) ?_
        refine kn_ge hK (by omega) (by omega) ti_75_641 jt_641_74 (fun c_641 => ?_) (fun c_641 => ?_)
        · have hw20 := hW.2.2.2.2.2.2 k i (by omega) c_641
          refine k_aload_n hK ti_75_644 rfl ?_
          refine n_get hK (.ref hc) ti_75_645 ow_75 fd_6_15 hR.ob rfl ?_
          refine k_iload hK ti_75_648 rfl ?_
          refine n_aald hK k ti_75_650 hR.rc (by omega) rfl (by omega) ?_
          refine n_get hK (.ref (V k)) ti_75_651 ow_75 fd_6_57 (hR.cl k (by omega)) rfl ?_
          refine k_iload hK ti_75_654 rfl ?_
          refine n_iald hK ((nI (g_wish s k i))) i ti_75_656 (hR.wi k (by omega)) (by omega) rfl (by omega) rfl ?_
          refine k_iload hK ti_75_657 rfl ?_
          refine kn_eq hK (by omega) (by omega) ti_75_659 jt_659_6 (fun c_659 => ?_) (fun c_659 => ?_)
          · refine k_aload_n hK ti_75_665 rfl ?_
            refine n_get hK (.ref hc) ti_75_666 ow_75 fd_6_15 hR.ob rfl ?_
            refine k_iload hK ti_75_669 rfl ?_
            refine n_aald hK k ti_75_671 hR.rc (by omega) rfl (by omega) ?_
            refine k_aload_n hK ti_75_672 rfl ?_
            refine n_get hK (.ref hc) ti_75_673 ow_75 fd_6_15 hR.ob rfl ?_
            refine k_iload hK ti_75_676 rfl ?_
            refine n_aald hK k ti_75_678 hR.rc (by omega) rfl (by omega) ?_
            refine n_get hK (.ref (V k)) ti_75_679 ow_75 fd_6_57 (hR.cl k (by omega)) rfl ?_
            refine k_iload hK ti_75_682 rfl ?_
            refine k_callS hK (as := [.ref (V k), .int _]) (st' := [.ref (C k)]) ti_75_684 ow_75 iv_6_39 mc_75 ms_75 rfl rfl (by omega) (Nat.le_of_ble_eq_true rfl) (Nat.le_of_ble_eq_true rfl) (by omega) (by omega) ?_
            refine sp_L_less (by omega) (V k) (g_many s k) i (fun i => nI (g_wish s k i)) (by omega) (by omega) (hR.wi k (by omega)) (fun r o_684 f_684 k_684 a_684 => ?_)
            have hR0 := hR
            replace hR := hR.kp k_684
            refine n_put hK [.int (l_coin l k), .int (g_bar s k), .int (l_paid l k), .ref r, .ref (B k)] ti_75_687 ow_75 fd_6_57 (Or.inl rfl) (hR.cl k (by omega)) (Nat.le_of_ble_eq_true rfl) rfl rfl (fun o_687 w_687 a_687 => ?_)
            have hr := a_684.wr w_687 (a_684.ne_O (hR.cl k hc9))
            have hR1 := sr_drp hR hc9 w_687 a_687 hr ⟨(sm_ne hR0.st.sm f_684).symm, (sm_ne hR0.age.sm f_684).symm⟩
            refine k_aload_n hK ti_75_690 rfl ?_
            refine k_iload hK ti_75_691 rfl ?_
            refine k_iload hK ti_75_693 rfl ?_
            refine k_callV hK (as := [.int _, .int _]) (st' := []) ti_75_695 ow_75 iv_6_66 mc_75 ms_75 rfl rfl (by omega) (Nat.le_of_ble_eq_true rfl) (Nat.le_of_ble_eq_true rfl) (by omega) (by omega) (by omega) rfl ?_
            refine cf_drop (by omega) k t i hJ (by omega) (by omega) (wsh_some (by omega) c_659 hno) (fun M_695 hJ1 => ?_)
            refine k_iload hK ti_75_698 rfl ?_
            refine kn_ne hK (by omega) (by omega) ti_75_700 jt_700_7 (fun c_700 => ?_) (fun c_700 => ?_)
            · refine k_iconst hK ti_75_703 kI_1 ?_
              refine k_goto hK ti_75_704 jt_704_4 ?_
              refine k_zreturn hK ti_75_708 rk_75 mc_75 ms_75 (by omega) (by omega) (by decide) ?_
              exact h _ _ _ _ _ _ _ _ _ _ (Or.inr (Or.inr (Or.inr (Or.inr (Or.inr (Or.inr (Or.inr (Or.inl ⟨k, i, rfl, rfl⟩)))))))) hJ1 hR1
            · exact absurd rfl c_700
          · refine k_goto hK ti_75_662 jt_662_47 ?_
            refine k_iinc hK (L' := [some (.ref 0), some (.ref S), some (.int _), some (.int _), some (.int _), some (.int _), some (.int _), some (.int _), some (.int _), none, none, none, none, none, some (.int (nI (i + 1))), none, none, none]) ti_75_709 rfl (by rw [kI_1, nI_add]) rfl ?_
            refine k_goto hK ti_75_712 jt_712_m84 ?_
            exact ih (i + 1) (by omega) (by omega) (fun k' h9 => by by_cases e : k' = i; (rw [e]; exact c_659); exact hno k' (by omega))
        · refine k_iconst hK ti_75_715 kI_1 ?_
          refine k_zreturn hK ti_75_716 rk_75 mc_75 ms_75 (by omega) (by omega) (by decide) ?_
          exact h _ _ _ _ _ _ _ _ _ _ (Or.inl ⟨rfl, rfl⟩) hJ hR
    exact loop ((g_many s k) - 0 + 1) 0 (by omega) (by omega) (fun k' h9 => absurd h9 (Nat.not_lt_zero k'))

set_option maxRecDepth 100000 in
set_option maxHeartbeats 4000000 in
theorem act_717 {X : dp_X} {d n : Nat} {M : dp_M} {o : dp_O} {Q : dp_Q} {K : dp_K} (h65 : 65 ≤ n) (hK : dp_clo X (dp_run X (d + 7)) (d + 7 + 1) 75 Q K) {S hs hw ha hc : Nat} {W C V B : Nat → Nat} {s : GSt} {l : LSt} (x : Int32) (a k w t : Nat) (hR : SR o S hs hw ha hc W C V B s l) (hJ : JC M s l) (ha9 : g_nA s = 0 ∨ a < g_nA s) (hk9 : g_nC s = 0 ∨ k < g_nC s) (hw9 : w < 40) (ht9 : t < 20) (h : ∀ M' o' s' l' hw' hc' W' C' V' B', AS s l s' l' → JC M' s' l' → SR o' S hs hw' ha hc' W' C' V' B' s' l' → Q (.inl (some (.int (nI 1)))) M' o') : K 717 [some (.ref 0), some (.ref S), some (.int x), some (.int (nI (g_nA s))), some (.int (nI (g_nC s))), some (.int (nI a)), some (.int (nI k)), some (.int (nI w)), some (.int (nI t)), none, none, none, none, none, none, none, none, none] [] n 0 0 M o := by
  have hW := hJ.w
  have hA16 := hW.1
  have hC6 := hW.2.1
  refine k_iload hK ti_75_717 rfl ?_
  refine kz_ne hK (by omega) ti_75_719 jt_719_5 (fun c_719 => ?_) (fun c_719 => ?_)
  · refine k_iconst hK ti_75_722 kI_1 ?_
    refine k_zreturn hK ti_75_723 rk_75 mc_75 ms_75 (by omega) (by omega) (by decide) ?_
    exact h _ _ _ _ _ _ _ _ _ _ (Or.inl ⟨rfl, rfl⟩) hJ hR
  · have hc9 : k < g_nC s := by omega
    have hm5 := hW.2.2.2.2.2.1 k (by omega)
    refine k_aload_n hK ti_75_724 rfl ?_
    refine n_get hK (.ref hc) ti_75_725 ow_75 fd_6_15 hR.ob rfl ?_
    refine k_iload hK ti_75_728 rfl ?_
    refine n_aald hK k ti_75_730 hR.rc (by omega) rfl (by omega) ?_
    refine n_get hK (.int (g_bar s k)) ti_75_731 ow_75 fd_6_69 (hR.cl k (by omega)) rfl ?_
    refine k_istore hK (L' := [some (.ref 0), some (.ref S), some (.int _), some (.int _), some (.int _), some (.int _), some (.int _), some (.int _), some (.int _), none, none, none, none, none, some (.int _), none, none, none]) ti_75_734 rfl ?_
    refine k_aload_n hK ti_75_736 rfl ?_
    refine n_get hK (.ref hc) ti_75_737 ow_75 fd_6_15 hR.ob rfl ?_
    refine k_iload hK ti_75_740 rfl ?_
    refine n_aald hK k ti_75_742 hR.rc (by omega) rfl (by omega) ?_
    refine k_iload_n hK ti_75_743 rfl ?_
    refine k_iconst hK ti_75_744 kI_1 ?_
    refine k_ishr hK ti_75_745 rfl ?_
    refine k_iload_n hK ti_75_746 rfl ?_
    refine k_bipush hK ti_75_747 kB_6 ?_
    refine k_ishr hK ti_75_749 rfl ?_
    refine k_iconst hK ti_75_750 kI_3 ?_
    refine k_callS hK (as := [.int _, .int _]) (st' := [.int _, .ref (C k)]) ti_75_751 ow_75 iv_6_19 mc_75 ms_75 rfl rfl (by omega) (Nat.le_of_ble_eq_true rfl) (Nat.le_of_ble_eq_true rfl) (by omega) (by omega) ?_
    refine sp_L_below (by omega) _ 3 (by omega) (by omega) (fun k2 hb_k2 => ?_)
    refine kz_ne hK (by omega) ti_75_754 jt_754_9 (fun c_754 => ?_) (fun c_754 => ?_)
    · refine k_sipush hK ti_75_757 kS_1000 ?_
      refine k_goto hK ti_75_760 jt_760_5 ?_
      refine k_callS hK (as := [.int _, .int _]) (st' := [.ref (C k)]) ti_75_765 ow_75 iv_6_19 mc_75 ms_75 rfl rfl (by omega) (Nat.le_of_ble_eq_true rfl) (Nat.le_of_ble_eq_true rfl) (by omega) (by omega) ?_
      refine sp_L_below (by omega) _ 1000 (by omega) (by omega) (fun kk hb_kk => ?_)
      refine n_put hK [.int (l_coin l k), .int (nI kk), .int (l_paid l k), .ref (V k), .ref (B k)] ti_75_768 ow_75 fd_6_69 (Or.inl rfl) (hR.cl k (by omega)) (Nat.le_of_ble_eq_true rfl) rfl rfl (fun o_768 w_768 a_768 => ?_)
      have hR1 := hR.bar hc9 w_768 a_768
      have hrc1 : RW _ true hc (g_nC s) C := hR1.rc
      refine k_aload_n hK ti_75_771 rfl ?_
      refine k_iload hK ti_75_772 rfl ?_
      refine k_aload_n hK ti_75_774 rfl ?_
      refine n_get hK (.ref hc) ti_75_775 ow_75 fd_6_15 hR1.ob rfl ?_
      refine k_iload hK ti_75_778 rfl ?_
      refine n_aald hK k ti_75_780 hrc1 (by omega) rfl (by omega) ?_
      refine n_get hK (.int (nI kk)) ti_75_781 ow_75 fd_6_69 a_768 rfl ?_
      refine k_callV hK (as := [.int _, .int _]) (st' := []) ti_75_784 ow_75 iv_6_72 mc_75 ms_75 rfl rfl (by omega) (Nat.le_of_ble_eq_true rfl) (Nat.le_of_ble_eq_true rfl) (by omega) (by omega) (by omega) rfl ?_
      refine cf_setBar (by omega) k kk hJ (by omega) (by omega) (fun M_784 hJ1 => ?_)
      refine k_iload hK ti_75_787 rfl ?_
      refine k_icmp_ne hK ti_75_789 jt_789_7 (fun c_789 => ?_) (fun c_789 => ?_)
      · refine k_iconst hK ti_75_792 kI_1 ?_
        refine k_goto hK ti_75_793 jt_793_4 ?_
        refine k_zreturn hK ti_75_797 rk_75 mc_75 ms_75 (by omega) (by omega) (by decide) ?_
        exact h _ _ _ _ _ _ _ _ _ _ (Or.inr (Or.inr (Or.inr (Or.inr (Or.inr (Or.inr (Or.inr (Or.inr (Or.inl ⟨k, kk, by omega, rfl, rfl⟩))))))))) hJ1 hR1
      · exact absurd rfl c_789
    · refine k_bipush hK ti_75_763 kB_60 ?_
      refine k_callS hK (as := [.int _, .int _]) (st' := [.ref (C k)]) ti_75_765 ow_75 iv_6_19 mc_75 ms_75 rfl rfl (by omega) (Nat.le_of_ble_eq_true rfl) (Nat.le_of_ble_eq_true rfl) (by omega) (by omega) ?_
      refine sp_L_below (by omega) _ 60 (by omega) (by omega) (fun kk hb_kk => ?_)
      refine n_put hK [.int (l_coin l k), .int (nI kk), .int (l_paid l k), .ref (V k), .ref (B k)] ti_75_768 ow_75 fd_6_69 (Or.inl rfl) (hR.cl k (by omega)) (Nat.le_of_ble_eq_true rfl) rfl rfl (fun o_768 w_768 a_768 => ?_)
      have hR1 := hR.bar hc9 w_768 a_768
      have hrc1 : RW _ true hc (g_nC s) C := hR1.rc
      refine k_aload_n hK ti_75_771 rfl ?_
      refine k_iload hK ti_75_772 rfl ?_
      refine k_aload_n hK ti_75_774 rfl ?_
      refine n_get hK (.ref hc) ti_75_775 ow_75 fd_6_15 hR1.ob rfl ?_
      refine k_iload hK ti_75_778 rfl ?_
      refine n_aald hK k ti_75_780 hrc1 (by omega) rfl (by omega) ?_
      refine n_get hK (.int (nI kk)) ti_75_781 ow_75 fd_6_69 a_768 rfl ?_
      refine k_callV hK (as := [.int _, .int _]) (st' := []) ti_75_784 ow_75 iv_6_72 mc_75 ms_75 rfl rfl (by omega) (Nat.le_of_ble_eq_true rfl) (Nat.le_of_ble_eq_true rfl) (by omega) (by omega) (by omega) rfl ?_
      refine cf_setBar (by omega) k kk hJ (by omega) (by omega) (fun M_784 hJ1 => ?_)
      refine k_iload hK ti_75_787 rfl ?_
      refine k_icmp_ne hK ti_75_789 jt_789_7 (fun c_789 => ?_) (fun c_789 => ?_)
      · refine k_iconst hK ti_75_792 kI_1 ?_
        refine k_goto hK ti_75_793 jt_793_4 ?_
        refine k_zreturn hK ti_75_797 rk_75 mc_75 ms_75 (by omega) (by omega) (by decide) ?_
        exact h _ _ _ _ _ _ _ _ _ _ (Or.inr (Or.inr (Or.inr (Or.inr (Or.inr (Or.inr (Or.inr (Or.inr (Or.inl ⟨k, kk, by omega, rfl, rfl⟩))))))))) hJ1 hR1
      · exact absurd rfl c_789

set_option maxRecDepth 100000 in
set_option maxHeartbeats 4000000 in
theorem act_798 {X : dp_X} {d n : Nat} {M : dp_M} {o : dp_O} {Q : dp_Q} {K : dp_K} (h65 : 65 ≤ n) (hK : dp_clo X (dp_run X (d + 7)) (d + 7 + 1) 75 Q K) {S hs hw ha hc : Nat} {W C V B : Nat → Nat} {s : GSt} {l : LSt} (x : Int32) (a k w t : Nat) (hR : SR o S hs hw ha hc W C V B s l) (hJ : JC M s l) (ha9 : g_nA s = 0 ∨ a < g_nA s) (hk9 : g_nC s = 0 ∨ k < g_nC s) (hw9 : w < 40) (ht9 : t < 20) (h : ∀ M' o' s' l' hw' hc' W' C' V' B', AS s l s' l' → JC M' s' l' → SR o' S hs hw' ha hc' W' C' V' B' s' l' → Q (.inl (some (.int (nI 1)))) M' o') : K 798 [some (.ref 0), some (.ref S), some (.int x), some (.int (nI (g_nA s))), some (.int (nI (g_nC s))), some (.int (nI a)), some (.int (nI k)), some (.int (nI w)), some (.int (nI t)), none, none, none, none, none, none, none, none, none] [] n 0 0 M o := by
  have hW := hJ.w
  have hA16 := hW.1
  have hC6 := hW.2.1
  refine k_iload hK ti_75_798 rfl ?_
  refine kz_ne hK (by omega) ti_75_800 jt_800_5 (fun c_800 => ?_) (fun c_800 => ?_)
  · refine k_iconst hK ti_75_803 kI_1 ?_
    refine k_zreturn hK ti_75_804 rk_75 mc_75 ms_75 (by omega) (by omega) (by decide) ?_
    exact h _ _ _ _ _ _ _ _ _ _ (Or.inl ⟨rfl, rfl⟩) hJ hR
  · have hc9 : k < g_nC s := by omega
    have hm5 := hW.2.2.2.2.2.1 k (by omega)
    refine k_iconst hK ti_75_805 kI_1 ?_
    refine k_iload_n hK ti_75_806 rfl ?_
    refine k_iconst hK ti_75_807 kI_1 ?_
    refine k_ishr hK ti_75_808 rfl ?_
    refine k_iload_n hK ti_75_809 rfl ?_
    refine k_bipush hK ti_75_810 kB_6 ?_
    refine k_ishr hK ti_75_812 rfl ?_
    refine k_iconst hK ti_75_813 kI_2 ?_
    refine k_callS hK (as := [.int _, .int _]) (st' := [.int _, .int _]) ti_75_814 ow_75 iv_6_19 mc_75 ms_75 rfl rfl (by omega) (Nat.le_of_ble_eq_true rfl) (Nat.le_of_ble_eq_true rfl) (by omega) (by omega) ?_
    refine sp_L_below (by omega) _ 2 (by omega) (by omega) (fun k2 hb_k2 => ?_)
    refine kz_ne hK (by omega) ti_75_817 jt_817_9 (fun c_817 => ?_) (fun c_817 => ?_)
    · refine k_sipush hK ti_75_820 kS_999 ?_
      refine k_goto hK ti_75_823 jt_823_5 ?_
      refine k_callS hK (as := [.int _, .int _]) (st' := [.int _]) ti_75_828 ow_75 iv_6_19 mc_75 ms_75 rfl rfl (by omega) (Nat.le_of_ble_eq_true rfl) (Nat.le_of_ble_eq_true rfl) (by omega) (by omega) ?_
      refine sp_L_below (by omega) _ 999 (by omega) (by omega) (fun kk hb_kk => ?_)
      refine k_iadd hK (z := (nI (1 + kk))) ti_75_831 (nI_add _ _) ?_
      refine k_istore hK (L' := [some (.ref 0), some (.ref S), some (.int _), some (.int _), some (.int _), some (.int _), some (.int _), some (.int _), some (.int _), none, none, none, none, none, none, some (.int _), none, none]) ti_75_832 rfl ?_
      refine k_aload_n hK ti_75_834 rfl ?_
      refine n_get hK (.ref hc) ti_75_835 ow_75 fd_6_15 hR.ob rfl ?_
      refine k_iload hK ti_75_838 rfl ?_
      refine n_aald hK k ti_75_840 hR.rc (by omega) rfl (by omega) ?_
      refine k_sipush hK ti_75_841 kS_9999 ?_
      refine k_aload_n hK ti_75_844 rfl ?_
      refine n_get hK (.ref hc) ti_75_845 ow_75 fd_6_15 hR.ob rfl ?_
      refine k_iload hK ti_75_848 rfl ?_
      refine n_aald hK k ti_75_850 hR.rc (by omega) rfl (by omega) ?_
      refine n_get hK (.int (l_coin l k)) ti_75_851 ow_75 fd_6_49 (hR.cl k (by omega)) rfl ?_
      refine k_iload hK ti_75_854 rfl ?_
      refine k_iadd hK (z := (l_coin l k + nI (1 + kk))) ti_75_856 rfl ?_
      refine k_minv hK (mn (nI 9999) (l_coin l k + nI (1 + kk))) ti_75_857 ow_75 nt_6_75 mc_75 ms_75 (Nat.le_of_ble_eq_true rfl) (Nat.le_of_ble_eq_true rfl) (Nat.le_of_ble_eq_true rfl) rfl ?_
      refine n_put hK [.int (mn (nI 9999) (l_coin l k + nI (1 + kk))), .int (g_bar s k), .int (l_paid l k), .ref (V k), .ref (B k)] ti_75_860 ow_75 fd_6_49 (Or.inl rfl) (hR.cl k (by omega)) (Nat.le_of_ble_eq_true rfl) rfl rfl (fun o_860 w_860 a_860 => ?_)
      have hR1 := hR.coin hc9 w_860 a_860
      have hrc1 : RW _ true hc (g_nC s) C := hR1.rc
      refine k_aload_n hK ti_75_863 rfl ?_
      refine k_iload hK ti_75_864 rfl ?_
      refine k_iload hK ti_75_866 rfl ?_
      refine k_callV hK (as := [.int _, .int _]) (st' := []) ti_75_868 ow_75 iv_6_80 mc_75 ms_75 rfl rfl (by omega) (Nat.le_of_ble_eq_true rfl) (Nat.le_of_ble_eq_true rfl) (by omega) (by omega) (by omega) rfl ?_
      refine cf_pay (by omega) k (1 + kk) hJ (by omega) (by omega) (by omega) (fun M_868 hJ1 => ?_)
      refine k_aload_n hK ti_75_871 rfl ?_
      refine n_get hK (.ref hc) ti_75_872 ow_75 fd_6_15 hR1.ob rfl ?_
      refine k_iload hK ti_75_875 rfl ?_
      refine n_aald hK k ti_75_877 hrc1 (by omega) rfl (by omega) ?_
      refine n_get hK (.int (mn (nI 9999) (l_coin l k + nI (1 + kk)))) ti_75_878 ow_75 fd_6_49 a_860 rfl ?_
      refine k_icmp_ne hK ti_75_881 jt_881_7 (fun c_881 => ?_) (fun c_881 => ?_)
      · refine k_iconst hK ti_75_884 kI_1 ?_
        refine k_goto hK ti_75_885 jt_885_4 ?_
        refine k_zreturn hK ti_75_889 rk_75 mc_75 ms_75 (by omega) (by omega) (by decide) ?_
        exact h _ _ _ _ _ _ _ _ _ _ (Or.inr (Or.inr (Or.inr (Or.inr (Or.inr (Or.inr (Or.inr (Or.inr (Or.inr (Or.inl ⟨k, 1 + kk, hc9, by omega, rfl, rfl⟩)))))))))) hJ1 hR1
      · exact absurd rfl c_881
    · refine k_bipush hK ti_75_826 kB_30 ?_
      refine k_callS hK (as := [.int _, .int _]) (st' := [.int _]) ti_75_828 ow_75 iv_6_19 mc_75 ms_75 rfl rfl (by omega) (Nat.le_of_ble_eq_true rfl) (Nat.le_of_ble_eq_true rfl) (by omega) (by omega) ?_
      refine sp_L_below (by omega) _ 30 (by omega) (by omega) (fun kk hb_kk => ?_)
      refine k_iadd hK (z := (nI (1 + kk))) ti_75_831 (nI_add _ _) ?_
      refine k_istore hK (L' := [some (.ref 0), some (.ref S), some (.int _), some (.int _), some (.int _), some (.int _), some (.int _), some (.int _), some (.int _), none, none, none, none, none, none, some (.int _), none, none]) ti_75_832 rfl ?_
      refine k_aload_n hK ti_75_834 rfl ?_
      refine n_get hK (.ref hc) ti_75_835 ow_75 fd_6_15 hR.ob rfl ?_
      refine k_iload hK ti_75_838 rfl ?_
      refine n_aald hK k ti_75_840 hR.rc (by omega) rfl (by omega) ?_
      refine k_sipush hK ti_75_841 kS_9999 ?_
      refine k_aload_n hK ti_75_844 rfl ?_
      refine n_get hK (.ref hc) ti_75_845 ow_75 fd_6_15 hR.ob rfl ?_
      refine k_iload hK ti_75_848 rfl ?_
      refine n_aald hK k ti_75_850 hR.rc (by omega) rfl (by omega) ?_
      refine n_get hK (.int (l_coin l k)) ti_75_851 ow_75 fd_6_49 (hR.cl k (by omega)) rfl ?_
      refine k_iload hK ti_75_854 rfl ?_
      refine k_iadd hK (z := (l_coin l k + nI (1 + kk))) ti_75_856 rfl ?_
      refine k_minv hK (mn (nI 9999) (l_coin l k + nI (1 + kk))) ti_75_857 ow_75 nt_6_75 mc_75 ms_75 (Nat.le_of_ble_eq_true rfl) (Nat.le_of_ble_eq_true rfl) (Nat.le_of_ble_eq_true rfl) rfl ?_
      refine n_put hK [.int (mn (nI 9999) (l_coin l k + nI (1 + kk))), .int (g_bar s k), .int (l_paid l k), .ref (V k), .ref (B k)] ti_75_860 ow_75 fd_6_49 (Or.inl rfl) (hR.cl k (by omega)) (Nat.le_of_ble_eq_true rfl) rfl rfl (fun o_860 w_860 a_860 => ?_)
      have hR1 := hR.coin hc9 w_860 a_860
      have hrc1 : RW _ true hc (g_nC s) C := hR1.rc
      refine k_aload_n hK ti_75_863 rfl ?_
      refine k_iload hK ti_75_864 rfl ?_
      refine k_iload hK ti_75_866 rfl ?_
      refine k_callV hK (as := [.int _, .int _]) (st' := []) ti_75_868 ow_75 iv_6_80 mc_75 ms_75 rfl rfl (by omega) (Nat.le_of_ble_eq_true rfl) (Nat.le_of_ble_eq_true rfl) (by omega) (by omega) (by omega) rfl ?_
      refine cf_pay (by omega) k (1 + kk) hJ (by omega) (by omega) (by omega) (fun M_868 hJ1 => ?_)
      refine k_aload_n hK ti_75_871 rfl ?_
      refine n_get hK (.ref hc) ti_75_872 ow_75 fd_6_15 hR1.ob rfl ?_
      refine k_iload hK ti_75_875 rfl ?_
      refine n_aald hK k ti_75_877 hrc1 (by omega) rfl (by omega) ?_
      refine n_get hK (.int (mn (nI 9999) (l_coin l k + nI (1 + kk)))) ti_75_878 ow_75 fd_6_49 a_860 rfl ?_
      refine k_icmp_ne hK ti_75_881 jt_881_7 (fun c_881 => ?_) (fun c_881 => ?_)
      · refine k_iconst hK ti_75_884 kI_1 ?_
        refine k_goto hK ti_75_885 jt_885_4 ?_
        refine k_zreturn hK ti_75_889 rk_75 mc_75 ms_75 (by omega) (by omega) (by decide) ?_
        exact h _ _ _ _ _ _ _ _ _ _ (Or.inr (Or.inr (Or.inr (Or.inr (Or.inr (Or.inr (Or.inr (Or.inr (Or.inr (Or.inl ⟨k, 1 + kk, hc9, by omega, rfl, rfl⟩)))))))))) hJ1 hR1
      · exact absurd rfl c_881

set_option maxRecDepth 100000 in
set_option maxHeartbeats 4000000 in
theorem act_890 {X : dp_X} {d n : Nat} {M : dp_M} {o : dp_O} {Q : dp_Q} {K : dp_K} (h65 : 65 ≤ n) (hK : dp_clo X (dp_run X (d + 7)) (d + 7 + 1) 75 Q K) {S hs hw ha hc : Nat} {W C V B : Nat → Nat} {s : GSt} {l : LSt} (x : Int32) (a k w t : Nat) (hR : SR o S hs hw ha hc W C V B s l) (hJ : JC M s l) (ha9 : g_nA s = 0 ∨ a < g_nA s) (hk9 : g_nC s = 0 ∨ k < g_nC s) (hw9 : w < 40) (ht9 : t < 20) (h : ∀ M' o' s' l' hw' hc' W' C' V' B', AS s l s' l' → JC M' s' l' → SR o' S hs hw' ha hc' W' C' V' B' s' l' → Q (.inl (some (.int (nI 1)))) M' o') : K 890 [some (.ref 0), some (.ref S), some (.int x), some (.int (nI (g_nA s))), some (.int (nI (g_nC s))), some (.int (nI a)), some (.int (nI k)), some (.int (nI w)), some (.int (nI t)), none, none, none, none, none, none, none, none, none] [] n 0 0 M o := by
  have hW := hJ.w
  have hA16 := hW.1
  have hC6 := hW.2.1
  refine k_iload hK ti_75_890 rfl ?_
  refine kz_eq hK (by omega) ti_75_892 jt_892_23 (fun c_892 => ?_) (fun c_892 => ?_)
  · refine k_iconst hK ti_75_915 kI_1 ?_
    refine k_goto hK ti_75_916 jt_916_4 ?_
    refine k_zreturn hK ti_75_920 rk_75 mc_75 ms_75 (by omega) (by omega) (by decide) ?_
    first | exact h _ _ _ _ _ _ _ _ _ _ (Or.inr (Or.inr (Or.inr (Or.inr (Or.inr (Or.inr (Or.inr (Or.inr (Or.inr (Or.inr (⟨k, hc9, rfl, rfl⟩))))))))))) hJ1 hR1 | exact h _ _ _ _ _ _ _ _ _ _ (Or.inl ⟨rfl, rfl⟩) hJ hR
  · have hc9 : k < g_nC s := by omega
    have hm5 := hW.2.2.2.2.2.1 k (by omega)
    refine k_aload_n hK ti_75_895 rfl ?_
    refine k_iload hK ti_75_896 rfl ?_
    refine k_callV hK (as := [.int _]) (st' := []) ti_75_898 ow_75 iv_6_83 mc_75 ms_75 rfl rfl (by omega) (Nat.le_of_ble_eq_true rfl) (Nat.le_of_ble_eq_true rfl) (by omega) (by omega) (by omega) rfl ?_
    refine cf_send (by omega) k hJ (by omega) (fun M_898 hJ1 => ?_)
    refine k_aload_n hK ti_75_901 rfl ?_
    refine k_aload_n hK ti_75_902 rfl ?_
    refine n_get hK (.ref hc) ti_75_903 ow_75 fd_6_15 hR.ob rfl ?_
    refine k_iload hK ti_75_906 rfl ?_
    refine n_aald hK k ti_75_908 hR.rc (by omega) rfl (by omega) ?_
    refine k_callVd hK (as := [.ref (C k)]) (st' := [.int _]) ti_75_909 ow_75 iv_6_86 mc_75 ms_75 rfl rfl (by omega) (Nat.le_of_ble_eq_true rfl) (Nat.le_of_ble_eq_true rfl) (by omega) (by omega) hR.ob ?_
    refine sp_X5_send (by omega) k hW hR hc9 (fun o_909 hR1 _ => ?_)
    refine k_icmp_ne hK ti_75_912 jt_912_7 (fun c_912 => ?_) (fun c_912 => ?_)
    · refine k_iconst hK ti_75_915 kI_1 ?_
      refine k_goto hK ti_75_916 jt_916_4 ?_
      refine k_zreturn hK ti_75_920 rk_75 mc_75 ms_75 (by omega) (by omega) (by decide) ?_
      first | exact h _ _ _ _ _ _ _ _ _ _ (Or.inr (Or.inr (Or.inr (Or.inr (Or.inr (Or.inr (Or.inr (Or.inr (Or.inr (Or.inr (⟨k, hc9, rfl, rfl⟩))))))))))) hJ1 hR1 | exact h _ _ _ _ _ _ _ _ _ _ (Or.inl ⟨rfl, rfl⟩) hJ hR
    · exact absurd rfl c_912

set_option maxRecDepth 100000 in
set_option maxHeartbeats 4000000 in
theorem act_921 {X : dp_X} {d n : Nat} {M : dp_M} {o : dp_O} {Q : dp_Q} {K : dp_K} (h65 : 65 ≤ n) (hK : dp_clo X (dp_run X (d + 7)) (d + 7 + 1) 75 Q K) {S hs hw ha hc : Nat} {W C V B : Nat → Nat} {s : GSt} {l : LSt} (x : Int32) (a k w t : Nat) (hR : SR o S hs hw ha hc W C V B s l) (hJ : JC M s l) (ha9 : g_nA s = 0 ∨ a < g_nA s) (hk9 : g_nC s = 0 ∨ k < g_nC s) (hw9 : w < 40) (ht9 : t < 20) (h : ∀ M' o' s' l' hw' hc' W' C' V' B', AS s l s' l' → JC M' s' l' → SR o' S hs hw' ha hc' W' C' V' B' s' l' → Q (.inl (some (.int (nI 1)))) M' o') : K 921 [some (.ref 0), some (.ref S), some (.int x), some (.int (nI (g_nA s))), some (.int (nI (g_nC s))), some (.int (nI a)), some (.int (nI k)), some (.int (nI w)), some (.int (nI t)), none, none, none, none, none, none, none, none, none] [] n 0 0 M o := by
  have hW := hJ.w
  have hA16 := hW.1
  have hC6 := hW.2.1
  refine k_iload_n hK ti_75_921 rfl ?_
  refine kz_eq hK (by omega) ti_75_922 jt_922_16 (fun c_922 => ?_) (fun c_922 => ?_)
  · refine k_iconst hK ti_75_938 kI_1 ?_
    refine k_zreturn hK ti_75_939 rk_75 mc_75 ms_75 (by omega) (by omega) (by decide) ?_
    exact h _ _ _ _ _ _ _ _ _ _ (Or.inl ⟨rfl, rfl⟩) hJ hR
  · have ha8 : a < g_nA s := by omega
    have hlen := hW.2.2.2.1 a (by omega)
    refine k_aload_n hK ti_75_925 rfl ?_
    refine n_get hK (.ref hw) ti_75_926 ow_75 fd_6_9 hR.ob rfl ?_
    refine k_iload hK ti_75_929 rfl ?_
    refine n_aald hK a ti_75_931 hR.rw (by omega) rfl (by omega) ?_
    refine n_alenI hK ti_75_932 (hR.wd a (by omega)) ?_
    refine k_bipush hK ti_75_933 kB_12 ?_
    refine kn_ne hK (by omega) (by omega) ti_75_935 jt_935_5 (fun c_935 => ?_) (fun c_935 => ?_)
    · refine k_iconst hK ti_75_938 kI_1 ?_
      refine k_zreturn hK ti_75_939 rk_75 mc_75 ms_75 (by omega) (by omega) (by decide) ?_
      exact h _ _ _ _ _ _ _ _ _ _ (Or.inl ⟨rfl, rfl⟩) hJ hR
    · refine k_aload_n hK ti_75_940 rfl ?_
      refine n_get hK (.ref hw) ti_75_941 ow_75 fd_6_9 hR.ob rfl ?_
      refine k_iload hK ti_75_944 rfl ?_
      refine k_aload_n hK ti_75_946 rfl ?_
      refine n_get hK (.ref hw) ti_75_947 ow_75 fd_6_9 hR.ob rfl ?_
      refine k_iload hK ti_75_950 rfl ?_
      refine n_aald hK a ti_75_952 hR.rw (by omega) rfl (by omega) ?_
      refine k_iload hK ti_75_953 rfl ?_
      refine k_callS hK (as := [.ref (W a), .int _]) (st' := [.int _, .ref hw]) ti_75_955 ow_75 iv_6_60 mc_75 ms_75 rfl rfl (by omega) (Nat.le_of_ble_eq_true rfl) (Nat.le_of_ble_eq_true rfl) (by omega) (by omega) ?_
      refine sp_L_more (by omega) (W a) (g_len s a) (fun k => nI (g_wd s a k)) (nI w) (by omega) (hR.wd a (by omega)) (fun r o_955 f_955 k_955 a_955 => ?_)
      have hR0 := hR
      replace hR := hR.kp k_955
      refine n_aast hK a ti_75_958 hR.rw.rp (by omega) rfl (by omega) (by omega) (el_I a_955) (fun o_958 w_958 a_958 => ?_)
      have hw1 := a_958.to (w := fun k => if k = a then r else W k) (by omega) (fun _ _ => rfl)
      have hr := a_955.wr w_958 (a_955.ne_R hR.rw)
      have hR1 := sr_wrt hR ha8 w_958 hw1 a_955 ⟨(sm_ne hR0.st.sm f_955).symm, (sm_ne hR0.age.sm f_955).symm⟩
      refine k_aload_n hK ti_75_959 rfl ?_
      refine k_iload hK ti_75_960 rfl ?_
      refine k_iload hK ti_75_962 rfl ?_
      refine k_callV hK (as := [.int _, .int _]) (st' := []) ti_75_964 ow_75 iv_6_89 mc_75 ms_75 rfl rfl (by omega) (Nat.le_of_ble_eq_true rfl) (Nat.le_of_ble_eq_true rfl) (by omega) (by omega) (by omega) rfl ?_
      refine cf_write (by omega) a w hJ (by omega) (by omega) (by omega) (fun M_964 hJ1 => ?_)
      refine k_aload_n hK ti_75_967 rfl ?_
      refine n_get hK (.ref hw) ti_75_968 ow_75 fd_6_9 hR1.ob rfl ?_
      refine k_iload hK ti_75_971 rfl ?_
      refine n_aald hK a ti_75_973 hw1 (by omega) rfl (by omega) ?_
      rw [if_pos rfl]
      refine n_alenI hK ti_75_974 hr ?_
      refine kn_ne hK (by omega) (by omega) ti_75_975 jt_975_7 (fun c_975 => ?_) (fun c_975 => ?_)
      · refine k_iconst hK ti_75_978 kI_1 ?_
        refine k_goto hK ti_75_979 jt_979_4 ?_
        refine k_zreturn hK ti_75_983 rk_75 mc_75 ms_75 (by omega) (by omega) (by decide) ?_
        exact h _ _ _ _ _ _ _ _ _ _ (Or.inr (Or.inr (Or.inr (Or.inl ⟨a, w, rfl, rfl⟩)))) hJ1 hR1
      · exact absurd rfl c_975

set_option maxRecDepth 100000 in
set_option maxHeartbeats 4000000 in
theorem sp_L_act {X : dp_X} {d n : Nat} {M : dp_M} {o : dp_O} {Q : dp_Q} (h65 : 65 ≤ n) {S hs hw ha hc : Nat} {W C V B : Nat → Nat} {s : GSt} {l : LSt} (x : Int32) (hR : SR o S hs hw ha hc W C V B s l) (hJ : JC M s l) (h : ∀ M' o' s' l' hw' hc' W' C' V' B', AS s l s' l' → JC M' s' l' → SR o' S hs hw' ha hc' W' C' V' B' s' l' → Q (.inl (some (.int (nI 1)))) M' o') : dp_run X (d + 7 + 1) 75 [.ref 0, .ref S, .int x] n M o Q := by
  apply k_run
  intro K hK
  rw [mL_75]
  show K 0 [some (.ref 0), some (.ref S), some (.int x), none, none, none, none, none, none, none, none, none, none, none, none, none, none, none] [] n 0 0 M o
  have hW := hJ.w
  have hA16 := hW.1
  have hC6 := hW.2.1
  suffices j28 : ∀ a, (g_nA s = 0 ∨ a < g_nA s) → K 28 [some (.ref 0), some (.ref S), some (.int x), some (.int (nI (g_nA s))), some (.int (nI (g_nC s))), some (.int (nI a)), none, none, none, none, none, none, none, none, none, none, none, none] [] n 0 0 M o by
    refine k_aload_n hK ti_75_0 rfl ?_
    refine n_get hK (.ref hw) ti_75_1 ow_75 fd_6_9 hR.ob rfl ?_
    refine n_alenR hK ti_75_4 hR.rw ?_
    refine k_istore_n hK (L' := [some (.ref 0), some (.ref S), some (.int _), some (.int _), none, none, none, none, none, none, none, none, none, none, none, none, none, none]) ti_75_5 rfl ?_
    refine k_aload_n hK ti_75_6 rfl ?_
    refine n_get hK (.ref hc) ti_75_7 ow_75 fd_6_15 hR.ob rfl ?_
    refine n_alenR hK ti_75_10 hR.rc ?_
    refine k_istore hK (L' := [some (.ref 0), some (.ref S), some (.int _), some (.int _), some (.int _), none, none, none, none, none, none, none, none, none, none, none, none, none]) ti_75_11 rfl ?_
    refine k_iload_n hK ti_75_13 rfl ?_
    refine kz_ne hK (by omega) ti_75_14 jt_14_7 (fun c_14 => ?_) (fun c_14 => ?_)
    · refine k_iconst hK ti_75_17 kI_0 ?_
      refine k_goto hK ti_75_18 jt_18_8 ?_
      refine k_istore hK (L' := [some (.ref 0), some (.ref S), some (.int _), some (.int _), some (.int _), some (.int _), none, none, none, none, none, none, none, none, none, none, none, none]) ti_75_26 rfl ?_
      exact j28 _ (Or.inl c_14)
    · refine k_iload_n hK ti_75_21 rfl ?_
      refine k_iload_n hK ti_75_22 rfl ?_
      refine k_callS hK (as := [.int _, .int _]) (st' := []) ti_75_23 ow_75 iv_6_19 mc_75 ms_75 rfl rfl (by omega) (Nat.le_of_ble_eq_true rfl) (Nat.le_of_ble_eq_true rfl) (by omega) (by omega) ?_
      refine sp_L_below (by omega) _ (g_nA s) (by omega) (by omega) (fun a hb_a => ?_)
      refine k_istore hK (L' := [some (.ref 0), some (.ref S), some (.int _), some (.int _), some (.int _), some (.int _), none, none, none, none, none, none, none, none, none, none, none, none]) ti_75_26 rfl ?_
      exact j28 _ (Or.inr hb_a)
  intro a ha9
  suffices j47 : ∀ k, (g_nC s = 0 ∨ k < g_nC s) → K 47 [some (.ref 0), some (.ref S), some (.int x), some (.int (nI (g_nA s))), some (.int (nI (g_nC s))), some (.int (nI a)), some (.int (nI k)), none, none, none, none, none, none, none, none, none, none, none] [] n 0 0 M o by
    refine k_iload hK ti_75_28 rfl ?_
    refine kz_ne hK (by omega) ti_75_30 jt_30_7 (fun c_30 => ?_) (fun c_30 => ?_)
    · refine k_iconst hK ti_75_33 kI_0 ?_
      refine k_goto hK ti_75_34 jt_34_11 ?_
      refine k_istore hK (L' := [some (.ref 0), some (.ref S), some (.int _), some (.int _), some (.int _), some (.int _), some (.int _), none, none, none, none, none, none, none, none, none, none, none]) ti_75_45 rfl ?_
      exact j47 _ (Or.inl c_30)
    · refine k_iload_n hK ti_75_37 rfl ?_
      refine k_iconst hK ti_75_38 kI_2 ?_
      refine k_ishr hK ti_75_39 rfl ?_
      refine k_iload hK ti_75_40 rfl ?_
      refine k_callS hK (as := [.int _, .int _]) (st' := []) ti_75_42 ow_75 iv_6_19 mc_75 ms_75 rfl rfl (by omega) (Nat.le_of_ble_eq_true rfl) (Nat.le_of_ble_eq_true rfl) (by omega) (by omega) ?_
      refine sp_L_below (by omega) _ (g_nC s) (by omega) (by omega) (fun k hb_k => ?_)
      refine k_istore hK (L' := [some (.ref 0), some (.ref S), some (.int _), some (.int _), some (.int _), some (.int _), some (.int _), none, none, none, none, none, none, none, none, none, none, none]) ti_75_45 rfl ?_
      exact j47 _ (Or.inr hb_k)
  intro k hk9
  suffices j73 : ∀ w, w < 40 → K 73 [some (.ref 0), some (.ref S), some (.int x), some (.int (nI (g_nA s))), some (.int (nI (g_nC s))), some (.int (nI a)), some (.int (nI k)), some (.int (nI w)), none, none, none, none, none, none, none, none, none, none] [] n 0 0 M o by
    refine k_iload_n hK ti_75_47 rfl ?_
    refine k_iconst hK ti_75_48 kI_3 ?_
    refine k_ishr hK ti_75_49 rfl ?_
    refine k_iload_n hK ti_75_50 rfl ?_
    refine k_bipush hK ti_75_51 kB_7 ?_
    refine k_ishr hK ti_75_53 rfl ?_
    refine k_iconst hK ti_75_54 kI_3 ?_
    refine k_callS hK (as := [.int _, .int _]) (st' := [.int _]) ti_75_55 ow_75 iv_6_19 mc_75 ms_75 rfl rfl (by omega) (Nat.le_of_ble_eq_true rfl) (Nat.le_of_ble_eq_true rfl) (by omega) (by omega) ?_
    refine sp_L_below (by omega) _ 3 (by omega) (by omega) (fun k3 hb_k3 => ?_)
    refine kz_ne hK (by omega) ti_75_58 jt_58_8 (fun c_58 => ?_) (fun c_58 => ?_)
    · refine k_bipush hK ti_75_61 kB_40 ?_
      refine k_goto hK ti_75_63 jt_63_5 ?_
      refine k_callS hK (as := [.int _, .int _]) (st' := []) ti_75_68 ow_75 iv_6_19 mc_75 ms_75 rfl rfl (by omega) (Nat.le_of_ble_eq_true rfl) (Nat.le_of_ble_eq_true rfl) (by omega) (by omega) ?_
      refine sp_L_below (by omega) _ 40 (by omega) (by omega) (fun w hb_w => ?_)
      refine k_istore hK (L' := [some (.ref 0), some (.ref S), some (.int _), some (.int _), some (.int _), some (.int _), some (.int _), some (.int _), none, none, none, none, none, none, none, none, none, none]) ti_75_71 rfl ?_
      exact j73 _ (by omega)
    · refine k_bipush hK ti_75_66 kB_12 ?_
      refine k_callS hK (as := [.int _, .int _]) (st' := []) ti_75_68 ow_75 iv_6_19 mc_75 ms_75 rfl rfl (by omega) (Nat.le_of_ble_eq_true rfl) (Nat.le_of_ble_eq_true rfl) (by omega) (by omega) ?_
      refine sp_L_below (by omega) _ 12 (by omega) (by omega) (fun w hb_w => ?_)
      refine k_istore hK (L' := [some (.ref 0), some (.ref S), some (.int _), some (.int _), some (.int _), some (.int _), some (.int _), some (.int _), none, none, none, none, none, none, none, none, none, none]) ti_75_71 rfl ?_
      exact j73 _ (by omega)
  intro w hw9
  suffices j99 : ∀ t, t < 20 → K 99 [some (.ref 0), some (.ref S), some (.int x), some (.int (nI (g_nA s))), some (.int (nI (g_nC s))), some (.int (nI a)), some (.int (nI k)), some (.int (nI w)), some (.int (nI t)), none, none, none, none, none, none, none, none, none] [] n 0 0 M o by
    refine k_iload_n hK ti_75_73 rfl ?_
    refine k_iconst hK ti_75_74 kI_4 ?_
    refine k_ishr hK ti_75_75 rfl ?_
    refine k_iload_n hK ti_75_76 rfl ?_
    refine k_bipush hK ti_75_77 kB_7 ?_
    refine k_ishr hK ti_75_79 rfl ?_
    refine k_iconst hK ti_75_80 kI_3 ?_
    refine k_callS hK (as := [.int _, .int _]) (st' := [.int _]) ti_75_81 ow_75 iv_6_19 mc_75 ms_75 rfl rfl (by omega) (Nat.le_of_ble_eq_true rfl) (Nat.le_of_ble_eq_true rfl) (by omega) (by omega) ?_
    refine sp_L_below (by omega) _ 3 (by omega) (by omega) (fun k3 hb_k3 => ?_)
    refine kz_ne hK (by omega) ti_75_84 jt_84_8 (fun c_84 => ?_) (fun c_84 => ?_)
    · refine k_bipush hK ti_75_87 kB_20 ?_
      refine k_goto hK ti_75_89 jt_89_5 ?_
      refine k_callS hK (as := [.int _, .int _]) (st' := []) ti_75_94 ow_75 iv_6_19 mc_75 ms_75 rfl rfl (by omega) (Nat.le_of_ble_eq_true rfl) (Nat.le_of_ble_eq_true rfl) (by omega) (by omega) ?_
      refine sp_L_below (by omega) _ 20 (by omega) (by omega) (fun t hb_t => ?_)
      refine k_istore hK (L' := [some (.ref 0), some (.ref S), some (.int _), some (.int _), some (.int _), some (.int _), some (.int _), some (.int _), some (.int _), none, none, none, none, none, none, none, none, none]) ti_75_97 rfl ?_
      exact j99 _ (by omega)
    · refine k_bipush hK ti_75_92 kB_7 ?_
      refine k_callS hK (as := [.int _, .int _]) (st' := []) ti_75_94 ow_75 iv_6_19 mc_75 ms_75 rfl rfl (by omega) (Nat.le_of_ble_eq_true rfl) (Nat.le_of_ble_eq_true rfl) (by omega) (by omega) ?_
      refine sp_L_below (by omega) _ 7 (by omega) (by omega) (fun t hb_t => ?_)
      refine k_istore hK (L' := [some (.ref 0), some (.ref S), some (.int _), some (.int _), some (.int _), some (.int _), some (.int _), some (.int _), some (.int _), none, none, none, none, none, none, none, none, none]) ti_75_97 rfl ?_
      exact j99 _ (by omega)
  intro t ht9
  refine k_iload_n hK ti_75_99 rfl ?_
  refine k_bipush hK ti_75_100 kB_9 ?_
  refine k_ishr hK ti_75_102 rfl ?_
  refine k_bipush hK ti_75_103 kB_24 ?_
  refine k_callS hK (as := [.int _, .int _]) (st' := []) ti_75_105 ow_75 iv_6_19 mc_75 ms_75 rfl rfl (by omega) (Nat.le_of_ble_eq_true rfl) (Nat.le_of_ble_eq_true rfl) (by omega) (by omega) ?_
  refine sp_L_below (by omega) _ 24 (by omega) (by omega) (fun y hb_y => ?_)
  have hw7 : y = 0 ∨ y = 1 ∨ y = 2 ∨ y = 3 ∨ y = 4 ∨ y = 5 ∨ y = 6 ∨ y = 7 ∨ y = 8 ∨ y = 9 ∨ y = 10 ∨ y = 11 ∨ y = 12 ∨ y = 13 ∨ y = 14 ∨ y = 15 ∨ y = 16 ∨ y = 17 ∨ y = 18 ∨ y = 19 ∨ y = 20 ∨ y = 21 ∨ y = 22 ∨ y = 23 := by omega
  rcases hw7 with rfl | rfl | rfl | rfl | rfl | rfl | rfl | rfl | rfl | rfl | rfl | rfl | rfl | rfl | rfl | rfl | rfl | rfl | rfl | rfl | rfl | rfl | rfl | rfl
  · refine k_swl hK (off := 76) ti_75_108 (by decide) rfl (by decide) jt_108_76 ?_
    exact act_184 (by omega) hK x a k w t hR hJ ha9 hk9 hw9 ht9 h
  · refine k_swl hK (off := 113) ti_75_108 (by decide) rfl (by decide) jt_108_113 ?_
    exact act_221 (by omega) hK x a k w t hR hJ ha9 hk9 hw9 ht9 h
  · refine k_swl hK (off := 113) ti_75_108 (by decide) rfl (by decide) jt_108_113 ?_
    exact act_221 (by omega) hK x a k w t hR hJ ha9 hk9 hw9 ht9 h
  · refine k_swl hK (off := 183) ti_75_108 (by decide) rfl (by decide) jt_108_183 ?_
    exact act_291 (by omega) hK x a k w t hR hJ ha9 hk9 hw9 ht9 h
  · refine k_swl hK (off := 266) ti_75_108 (by decide) rfl (by decide) jt_108_266 ?_
    exact act_374 (by omega) hK x a k w t hR hJ ha9 hk9 hw9 ht9 h
  · refine k_swl hK (off := 266) ti_75_108 (by decide) rfl (by decide) jt_108_266 ?_
    exact act_374 (by omega) hK x a k w t hR hJ ha9 hk9 hw9 ht9 h
  · refine k_swl hK (off := 386) ti_75_108 (by decide) rfl (by decide) jt_108_386 ?_
    exact act_494 (by omega) hK x a k w t hR hJ ha9 hk9 hw9 ht9 h
  · refine k_swl hK (off := 386) ti_75_108 (by decide) rfl (by decide) jt_108_386 ?_
    exact act_494 (by omega) hK x a k w t hR hJ ha9 hk9 hw9 ht9 h
  · refine k_swl hK (off := 386) ti_75_108 (by decide) rfl (by decide) jt_108_386 ?_
    exact act_494 (by omega) hK x a k w t hR hJ ha9 hk9 hw9 ht9 h
  · refine k_swl hK (off := 386) ti_75_108 (by decide) rfl (by decide) jt_108_386 ?_
    exact act_494 (by omega) hK x a k w t hR hJ ha9 hk9 hw9 ht9 h
  · refine k_swl hK (off := 510) ti_75_108 (by decide) rfl (by decide) jt_108_510 ?_
    exact act_618 (by omega) hK x a k w t hR hJ ha9 hk9 hw9 ht9 h
  · refine k_swl hK (off := 609) ti_75_108 (by decide) rfl (by decide) jt_108_609 ?_
    exact act_717 (by omega) hK x a k w t hR hJ ha9 hk9 hw9 ht9 h
  · refine k_swl hK (off := 690) ti_75_108 (by decide) rfl (by decide) jt_108_690 ?_
    exact act_798 (by omega) hK x a k w t hR hJ ha9 hk9 hw9 ht9 h
  · refine k_swl hK (off := 782) ti_75_108 (by decide) rfl (by decide) jt_108_782 ?_
    exact act_890 (by omega) hK x a k w t hR hJ ha9 hk9 hw9 ht9 h
  · refine k_swl hK (off := 782) ti_75_108 (by decide) rfl (by decide) jt_108_782 ?_
    exact act_890 (by omega) hK x a k w t hR hJ ha9 hk9 hw9 ht9 h
  · refine k_swd hK ti_75_108 (by decide) (by decide) (by decide) jt_108_813 ?_
    exact act_921 (by omega) hK x a k w t hR hJ ha9 hk9 hw9 ht9 h
  · refine k_swd hK ti_75_108 (by decide) (by decide) (by decide) jt_108_813 ?_
    exact act_921 (by omega) hK x a k w t hR hJ ha9 hk9 hw9 ht9 h
  · refine k_swd hK ti_75_108 (by decide) (by decide) (by decide) jt_108_813 ?_
    exact act_921 (by omega) hK x a k w t hR hJ ha9 hk9 hw9 ht9 h
  · refine k_swd hK ti_75_108 (by decide) (by decide) (by decide) jt_108_813 ?_
    exact act_921 (by omega) hK x a k w t hR hJ ha9 hk9 hw9 ht9 h
  · refine k_swd hK ti_75_108 (by decide) (by decide) (by decide) jt_108_813 ?_
    exact act_921 (by omega) hK x a k w t hR hJ ha9 hk9 hw9 ht9 h
  · refine k_swd hK ti_75_108 (by decide) (by decide) (by decide) jt_108_813 ?_
    exact act_921 (by omega) hK x a k w t hR hJ ha9 hk9 hw9 ht9 h
  · refine k_swd hK ti_75_108 (by decide) (by decide) (by decide) jt_108_813 ?_
    exact act_921 (by omega) hK x a k w t hR hJ ha9 hk9 hw9 ht9 h
  · refine k_swd hK ti_75_108 (by decide) (by decide) (by decide) jt_108_813 ?_
    exact act_921 (by omega) hK x a k w t hR hJ ha9 hk9 hw9 ht9 h
  · refine k_swd hK ti_75_108 (by decide) (by decide) (by decide) jt_108_813 ?_
    exact act_921 (by omega) hK x a k w t hR hJ ha9 hk9 hw9 ht9 h
