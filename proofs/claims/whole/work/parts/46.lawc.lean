/-! The law: its cases. (written by wip/whole/lawc.py) -/
set_option maxRecDepth 100000 in
set_option maxHeartbeats 4000000 in
theorem law_setStem {X : dp_X} {d : Nat} {M : dp_M} {o : Int64} {Q : dp_Q} {K : dp_K} (hK : dp_clo X (dp_run X (d + 10)) (d + 11) 146 Q K) (hX : X.1 < 2 ^ 31) {i c q : Nat} {u5 u6 u7 u8 : Option Value} (hi : i + 3 ≤ X.1) {s : GSt} {l : LSt} (hJ : JJ M s l) (hc : c + 8 ≤ 601024) (hq : q + 500 ≤ 7293034)
  (hn : ∀ (M' : dp_M) (o' : Int64) (s' : GSt) (l' : LSt) (c' q' : Nat) (u5 u6 u7 u8 : Option Value), JJ M' s' l' → c' ≤ c + 8 → q' ≤ q + 500 → K 1620 [some (.ref 1000), some (.ref 0), some (.ref 22), some (.ref 26), some (.int (nI i)), u5, u6, u7, u8] [] 65 c' q' M' o') : K 152 [some (.ref 1000), some (.ref 0), some (.ref 22), some (.ref 26), some (.int (nI i)), u5, u6, u7, u8] [] 65 c q M o := by
  obtain ⟨hC, hN, hG, hL, hV⟩ := hJ
  have hW := hG.1
  refine k_aload_n hK ti_146_152 rfl ?_
  refine k_aload_n hK ti_146_153 rfl ?_
  refine k_iload hK ti_146_154 rfl ?_
  refine k_iconst hK ti_146_156 kI_1 ?_
  refine k_iadd hK (z := (nI (i + 1))) ti_146_157 (nI_add _ _) ?_
  refine k_sald hK (i + 1) ti_146_158 rfl (by omega) hX ?_
  refine k_aload_n hK ti_146_159 rfl ?_
  refine k_iload hK ti_146_160 rfl ?_
  refine k_iconst hK ti_146_162 kI_2 ?_
  refine k_iadd hK (z := (nI (i + 2))) ti_146_163 (nI_add _ _) ?_
  refine k_sald hK (i + 2) ti_146_164 rfl (by omega) hX ?_
  refine k_aload_n hK ti_146_165 rfl ?_
  refine k_callS hK (as := [.ref 0, .int _, .int _, .ref 26]) (st' := []) ti_146_166 ow_146 iv_5_88 mc_146 ms_146 rfl rfl (by omega) (Nat.le_of_ble_eq_true rfl) (Nat.le_of_ble_eq_true rfl) (by omega) (by omega) ?_
  refine sp_L_setStem (by omega) (X.2 (i + 1)) (X.2 (i + 2)) hC hN hV (fun M2 o2 hA ho => ?_)
  have hk2 : u_k (fc_setStem s l (X.2 (i + 1)) (X.2 (i + 2))) ≤ 2 := by rcases fck_setStem s l (X.2 (i + 1)) (X.2 (i + 2)) with e | ⟨e, e2⟩ <;> omega
  have hG2 := RG_wC hA.1 hG
  have hL2 := RLt_wC hA.1 hL
  refine k_istore hK (L' := [some (.ref 1000), some (.ref 0), some (.ref 22), some (.ref 26), some (.int _), some (.int _), u6, u7, u8]) ti_146_169 rfl ?_
  refine k_aload_n hK ti_146_171 rfl ?_
  refine k_aload_n hK ti_146_172 rfl ?_
  refine k_iload hK ti_146_173 rfl ?_
  refine k_iconst hK ti_146_175 kI_1 ?_
  refine k_iadd hK (z := (nI (i + 1))) ti_146_176 (nI_add _ _) ?_
  refine k_sald hK (i + 1) ti_146_177 rfl (by omega) hX ?_
  refine k_aload_n hK ti_146_178 rfl ?_
  refine k_iload hK ti_146_179 rfl ?_
  refine k_iconst hK ti_146_181 kI_2 ?_
  refine k_iadd hK (z := (nI (i + 2))) ti_146_182 (nI_add _ _) ?_
  refine k_sald hK (i + 2) ti_146_183 rfl (by omega) hX ?_
  refine k_callV hK (as := [.int _, .int _]) (st' := []) ti_146_184 ow_146 iv_5_93 mc_146 ms_146 rfl rfl (by omega) (Nat.le_of_ble_eq_true rfl) (Nat.le_of_ble_eq_true rfl) (by omega) (by omega) (by omega) rfl ?_
  refine sp_X4_setStem (by omega) (X.2 (i + 1)) (X.2 (i + 2)) hG2 hL2 (fun M3 hB => ?_)
  have hJ2 := JJ_next hA hB (wfl_setStem hV hW)
  refine k_istore hK (L' := [some (.ref 1000), some (.ref 0), some (.ref 22), some (.ref 26), some (.int _), some (.int _), some (.int _), u7, u8]) ti_146_187 rfl ?_
  refine k_aload_n hK ti_146_189 rfl ?_
  refine k_callV hK (as := []) (st' := []) ti_146_190 ow_146 iv_5_94 mc_146 ms_146 rfl rfl (by omega) (Nat.le_of_ble_eq_true rfl) (Nat.le_of_ble_eq_true rfl) (by omega) (by omega) (by omega) rfl ?_
  refine sp_X4_thrown (by omega) (k_aftv (nI (u_k (fc_setStem s l (X.2 (i + 1)) (X.2 (i + 2))))) hB.2.2.2 ?_)
  refine k_iload hK ti_146_193 rfl ?_
  refine kn_eq hK (by omega) (by omega) ti_146_195 jt_195_5 (fun c_195 => ?_) (fun c_195 => ?_)
  · refine k_iload hK ti_146_200 rfl ?_
    refine kz_ne hK (by omega) ti_146_202 jt_202_15 (fun c_202 => ?_) (fun c_202 => ?_)
    · rw [ho c_202]
      refine k_aload_n hK ti_146_205 rfl ?_
      refine k_iconst hK ti_146_206 kI_0 ?_
      refine k_laload hK ti_146_207 (by omega) ?_
      refine k_iload hK ti_146_208 rfl ?_
      refine k_i2l hK ti_146_210 ?_
      refine k_lcmp hK ti_146_211 ?_
      refine k_if_eq hK ti_146_212 jt_212_5 (fun c_212 => ?_) (fun c_212 => ?_)
      · refine k_goto hK ti_146_217 jt_217_1403 ?_
        exact hn _ _ _ _ _ _ _ _ _ _ hJ2 (by omega) (by omega)
      · exact absurd lgc c_212
    · refine k_goto hK ti_146_217 jt_217_1403 ?_
      exact hn _ _ _ _ _ _ _ _ _ _ hJ2 (by omega) (by omega)
  · exact absurd rfl c_195

set_option maxRecDepth 100000 in
set_option maxHeartbeats 4000000 in
theorem law_print {X : dp_X} {d : Nat} {M : dp_M} {o : Int64} {Q : dp_Q} {K : dp_K} (hK : dp_clo X (dp_run X (d + 10)) (d + 11) 146 Q K) (hX : X.1 < 2 ^ 31) {i c q : Nat} {u5 u6 u7 u8 : Option Value} (hi : i + 3 ≤ X.1) {s : GSt} {l : LSt} (hJ : JJ M s l) (hc : c + 8 ≤ 601024) (hq : q + 500 ≤ 7293034)
  (hn : ∀ (M' : dp_M) (o' : Int64) (s' : GSt) (l' : LSt) (c' q' : Nat) (u5 u6 u7 u8 : Option Value), JJ M' s' l' → c' ≤ c + 8 → q' ≤ q + 500 → K 1620 [some (.ref 1000), some (.ref 0), some (.ref 22), some (.ref 26), some (.int (nI i)), u5, u6, u7, u8] [] 65 c' q' M' o') : K 220 [some (.ref 1000), some (.ref 0), some (.ref 22), some (.ref 26), some (.int (nI i)), u5, u6, u7, u8] [] 65 c q M o := by
  obtain ⟨hC, hN, hG, hL, hV⟩ := hJ
  have hW := hG.1
  refine k_aload_n hK ti_146_220 rfl ?_
  refine k_aload_n hK ti_146_221 rfl ?_
  refine k_callS hK (as := [.ref 0, .ref 26]) (st' := []) ti_146_222 ow_146 iv_5_97 mc_146 ms_146 rfl rfl (by omega) (Nat.le_of_ble_eq_true rfl) (Nat.le_of_ble_eq_true rfl) (by omega) (by omega) ?_
  refine sp_L_print (by omega) hC hN hV (fun M2 o2 hA ho => ?_)
  have hk2 : u_k (fc_print s l) ≤ 2 := by rcases fck_print s l with e | ⟨e, e2⟩ <;> omega
  have hG2 := RG_wC hA.1 hG
  have hL2 := RLt_wC hA.1 hL
  refine k_istore hK (L' := [some (.ref 1000), some (.ref 0), some (.ref 22), some (.ref 26), some (.int _), some (.int _), u6, u7, u8]) ti_146_225 rfl ?_
  refine k_aload_n hK ti_146_227 rfl ?_
  refine k_callV hK (as := []) (st' := []) ti_146_228 ow_146 iv_5_100 mc_146 ms_146 rfl rfl (by omega) (Nat.le_of_ble_eq_true rfl) (Nat.le_of_ble_eq_true rfl) (by omega) (by omega) (by omega) rfl ?_
  refine sp_X4_print (by omega) hG2 hL2 (fun M3 hB => ?_)
  have hJ2 := JJ_next hA hB (wfl_print hV hW)
  refine k_istore hK (L' := [some (.ref 1000), some (.ref 0), some (.ref 22), some (.ref 26), some (.int _), some (.int _), some (.int _), u7, u8]) ti_146_231 rfl ?_
  refine k_aload_n hK ti_146_233 rfl ?_
  refine k_callV hK (as := []) (st' := []) ti_146_234 ow_146 iv_5_94 mc_146 ms_146 rfl rfl (by omega) (Nat.le_of_ble_eq_true rfl) (Nat.le_of_ble_eq_true rfl) (by omega) (by omega) (by omega) rfl ?_
  refine sp_X4_thrown (by omega) (k_aftv (nI (u_k (fc_print s l))) hB.2.2.2 ?_)
  refine k_iload hK ti_146_237 rfl ?_
  refine kn_eq hK (by omega) (by omega) ti_146_239 jt_239_5 (fun c_239 => ?_) (fun c_239 => ?_)
  · refine k_iload hK ti_146_244 rfl ?_
    refine kz_ne hK (by omega) ti_146_246 jt_246_15 (fun c_246 => ?_) (fun c_246 => ?_)
    · rw [ho c_246]
      refine k_aload_n hK ti_146_249 rfl ?_
      refine k_iconst hK ti_146_250 kI_0 ?_
      refine k_laload hK ti_146_251 (by omega) ?_
      refine k_iload hK ti_146_252 rfl ?_
      refine k_i2l hK ti_146_254 ?_
      refine k_lcmp hK ti_146_255 ?_
      refine k_if_eq hK ti_146_256 jt_256_5 (fun c_256 => ?_) (fun c_256 => ?_)
      · refine k_goto hK ti_146_261 jt_261_1359 ?_
        exact hn _ _ _ _ _ _ _ _ _ _ hJ2 (by omega) (by omega)
      · exact absurd lgc c_256
    · refine k_goto hK ti_146_261 jt_261_1359 ?_
      exact hn _ _ _ _ _ _ _ _ _ _ hJ2 (by omega) (by omega)
  · exact absurd rfl c_239

set_option maxRecDepth 100000 in
set_option maxHeartbeats 4000000 in
theorem law_write {X : dp_X} {d : Nat} {M : dp_M} {o : Int64} {Q : dp_Q} {K : dp_K} (hK : dp_clo X (dp_run X (d + 10)) (d + 11) 146 Q K) (hX : X.1 < 2 ^ 31) {i c q : Nat} {u5 u6 u7 u8 : Option Value} (hi : i + 3 ≤ X.1) {s : GSt} {l : LSt} (hJ : JJ M s l) (hc : c + 8 ≤ 601024) (hq : q + 500 ≤ 7293034)
  (hn : ∀ (M' : dp_M) (o' : Int64) (s' : GSt) (l' : LSt) (c' q' : Nat) (u5 u6 u7 u8 : Option Value), JJ M' s' l' → c' ≤ c + 8 → q' ≤ q + 500 → K 1620 [some (.ref 1000), some (.ref 0), some (.ref 22), some (.ref 26), some (.int (nI i)), u5, u6, u7, u8] [] 65 c' q' M' o') : K 264 [some (.ref 1000), some (.ref 0), some (.ref 22), some (.ref 26), some (.int (nI i)), u5, u6, u7, u8] [] 65 c q M o := by
  obtain ⟨hC, hN, hG, hL, hV⟩ := hJ
  have hW := hG.1
  refine k_aload_n hK ti_146_264 rfl ?_
  refine k_aload_n hK ti_146_265 rfl ?_
  refine k_iload hK ti_146_266 rfl ?_
  refine k_iconst hK ti_146_268 kI_1 ?_
  refine k_iadd hK (z := (nI (i + 1))) ti_146_269 (nI_add _ _) ?_
  refine k_sald hK (i + 1) ti_146_270 rfl (by omega) hX ?_
  refine k_aload_n hK ti_146_271 rfl ?_
  refine k_iload hK ti_146_272 rfl ?_
  refine k_iconst hK ti_146_274 kI_2 ?_
  refine k_iadd hK (z := (nI (i + 2))) ti_146_275 (nI_add _ _) ?_
  refine k_sald hK (i + 2) ti_146_276 rfl (by omega) hX ?_
  refine k_aload_n hK ti_146_277 rfl ?_
  refine k_callS hK (as := [.ref 0, .int _, .int _, .ref 26]) (st' := []) ti_146_278 ow_146 iv_5_101 mc_146 ms_146 rfl rfl (by omega) (Nat.le_of_ble_eq_true rfl) (Nat.le_of_ble_eq_true rfl) (by omega) (by omega) ?_
  refine sp_L_write (by omega) (X.2 (i + 1)) (X.2 (i + 2)) hC hN hV (fun M2 o2 hA ho => ?_)
  have hk2 : u_k (fc_write s l (X.2 (i + 1)) (X.2 (i + 2))) ≤ 2 := by rcases fck_write s l (X.2 (i + 1)) (X.2 (i + 2)) with e | ⟨e, e2⟩ | ⟨e, e2⟩ <;> omega
  have hG2 := RG_wC hA.1 hG
  have hL2 := RLt_wC hA.1 hL
  refine k_istore hK (L' := [some (.ref 1000), some (.ref 0), some (.ref 22), some (.ref 26), some (.int _), some (.int _), u6, u7, u8]) ti_146_281 rfl ?_
  refine k_aload_n hK ti_146_283 rfl ?_
  refine k_aload_n hK ti_146_284 rfl ?_
  refine k_iload hK ti_146_285 rfl ?_
  refine k_iconst hK ti_146_287 kI_1 ?_
  refine k_iadd hK (z := (nI (i + 1))) ti_146_288 (nI_add _ _) ?_
  refine k_sald hK (i + 1) ti_146_289 rfl (by omega) hX ?_
  refine k_aload_n hK ti_146_290 rfl ?_
  refine k_iload hK ti_146_291 rfl ?_
  refine k_iconst hK ti_146_293 kI_2 ?_
  refine k_iadd hK (z := (nI (i + 2))) ti_146_294 (nI_add _ _) ?_
  refine k_sald hK (i + 2) ti_146_295 rfl (by omega) hX ?_
  refine k_callV hK (as := [.int _, .int _]) (st' := []) ti_146_296 ow_146 iv_5_103 mc_146 ms_146 rfl rfl (by omega) (Nat.le_of_ble_eq_true rfl) (Nat.le_of_ble_eq_true rfl) (by omega) (by omega) (by omega) rfl ?_
  refine sp_X4_write (by omega) (X.2 (i + 1)) (X.2 (i + 2)) hG2 hL2 (fun M3 hB => ?_)
  have hJ2 := JJ_next hA hB (wfl_write hV hW)
  refine k_istore hK (L' := [some (.ref 1000), some (.ref 0), some (.ref 22), some (.ref 26), some (.int _), some (.int _), some (.int _), u7, u8]) ti_146_299 rfl ?_
  refine k_aload_n hK ti_146_301 rfl ?_
  refine k_callV hK (as := []) (st' := []) ti_146_302 ow_146 iv_5_94 mc_146 ms_146 rfl rfl (by omega) (Nat.le_of_ble_eq_true rfl) (Nat.le_of_ble_eq_true rfl) (by omega) (by omega) (by omega) rfl ?_
  refine sp_X4_thrown (by omega) (k_aftv (nI (u_k (fc_write s l (X.2 (i + 1)) (X.2 (i + 2))))) hB.2.2.2 ?_)
  refine k_iload hK ti_146_305 rfl ?_
  refine kn_eq hK (by omega) (by omega) ti_146_307 jt_307_5 (fun c_307 => ?_) (fun c_307 => ?_)
  · refine k_iload hK ti_146_312 rfl ?_
    refine kz_ne hK (by omega) ti_146_314 jt_314_15 (fun c_314 => ?_) (fun c_314 => ?_)
    · rw [ho c_314]
      refine k_aload_n hK ti_146_317 rfl ?_
      refine k_iconst hK ti_146_318 kI_0 ?_
      refine k_laload hK ti_146_319 (by omega) ?_
      refine k_iload hK ti_146_320 rfl ?_
      refine k_i2l hK ti_146_322 ?_
      refine k_lcmp hK ti_146_323 ?_
      refine k_if_eq hK ti_146_324 jt_324_5 (fun c_324 => ?_) (fun c_324 => ?_)
      · refine k_goto hK ti_146_329 jt_329_1291 ?_
        exact hn _ _ _ _ _ _ _ _ _ _ hJ2 (by omega) (by omega)
      · exact absurd lgc c_324
    · refine k_goto hK ti_146_329 jt_329_1291 ?_
      exact hn _ _ _ _ _ _ _ _ _ _ hJ2 (by omega) (by omega)
  · exact absurd rfl c_307

set_option maxRecDepth 100000 in
set_option maxHeartbeats 4000000 in
theorem law_strike {X : dp_X} {d : Nat} {M : dp_M} {o : Int64} {Q : dp_Q} {K : dp_K} (hK : dp_clo X (dp_run X (d + 10)) (d + 11) 146 Q K) (hX : X.1 < 2 ^ 31) {i c q : Nat} {u5 u6 u7 u8 : Option Value} (hi : i + 3 ≤ X.1) {s : GSt} {l : LSt} (hJ : JJ M s l) (hc : c + 8 ≤ 601024) (hq : q + 500 ≤ 7293034)
  (hn : ∀ (M' : dp_M) (o' : Int64) (s' : GSt) (l' : LSt) (c' q' : Nat) (u5 u6 u7 u8 : Option Value), JJ M' s' l' → c' ≤ c + 8 → q' ≤ q + 500 → K 1620 [some (.ref 1000), some (.ref 0), some (.ref 22), some (.ref 26), some (.int (nI i)), u5, u6, u7, u8] [] 65 c' q' M' o') : K 332 [some (.ref 1000), some (.ref 0), some (.ref 22), some (.ref 26), some (.int (nI i)), u5, u6, u7, u8] [] 65 c q M o := by
  obtain ⟨hC, hN, hG, hL, hV⟩ := hJ
  have hW := hG.1
  refine k_aload_n hK ti_146_332 rfl ?_
  refine k_aload_n hK ti_146_333 rfl ?_
  refine k_iload hK ti_146_334 rfl ?_
  refine k_iconst hK ti_146_336 kI_1 ?_
  refine k_iadd hK (z := (nI (i + 1))) ti_146_337 (nI_add _ _) ?_
  refine k_sald hK (i + 1) ti_146_338 rfl (by omega) hX ?_
  refine k_aload_n hK ti_146_339 rfl ?_
  refine k_iload hK ti_146_340 rfl ?_
  refine k_iconst hK ti_146_342 kI_2 ?_
  refine k_iadd hK (z := (nI (i + 2))) ti_146_343 (nI_add _ _) ?_
  refine k_sald hK (i + 2) ti_146_344 rfl (by omega) hX ?_
  refine k_aload_n hK ti_146_345 rfl ?_
  refine k_callS hK (as := [.ref 0, .int _, .int _, .ref 26]) (st' := []) ti_146_346 ow_146 iv_5_104 mc_146 ms_146 rfl rfl (by omega) (Nat.le_of_ble_eq_true rfl) (Nat.le_of_ble_eq_true rfl) (by omega) (by omega) ?_
  refine sp_L_strike (by omega) (X.2 (i + 1)) (X.2 (i + 2)) hC hN hV (fun M2 o2 hA ho => ?_)
  have hk2 : u_k (fc_strike s l (X.2 (i + 1)) (X.2 (i + 2))) ≤ 2 := by rcases fck_strike s l (X.2 (i + 1)) (X.2 (i + 2)) with e | ⟨e, e2⟩ <;> omega
  have hG2 := RG_wC hA.1 hG
  have hL2 := RLt_wC hA.1 hL
  refine k_istore hK (L' := [some (.ref 1000), some (.ref 0), some (.ref 22), some (.ref 26), some (.int _), some (.int _), u6, u7, u8]) ti_146_349 rfl ?_
  refine k_aload_n hK ti_146_351 rfl ?_
  refine k_aload_n hK ti_146_352 rfl ?_
  refine k_iload hK ti_146_353 rfl ?_
  refine k_iconst hK ti_146_355 kI_1 ?_
  refine k_iadd hK (z := (nI (i + 1))) ti_146_356 (nI_add _ _) ?_
  refine k_sald hK (i + 1) ti_146_357 rfl (by omega) hX ?_
  refine k_aload_n hK ti_146_358 rfl ?_
  refine k_iload hK ti_146_359 rfl ?_
  refine k_iconst hK ti_146_361 kI_2 ?_
  refine k_iadd hK (z := (nI (i + 2))) ti_146_362 (nI_add _ _) ?_
  refine k_sald hK (i + 2) ti_146_363 rfl (by omega) hX ?_
  refine k_callV hK (as := [.int _, .int _]) (st' := []) ti_146_364 ow_146 iv_5_106 mc_146 ms_146 rfl rfl (by omega) (Nat.le_of_ble_eq_true rfl) (Nat.le_of_ble_eq_true rfl) (by omega) (by omega) (by omega) rfl ?_
  refine sp_X4_strike (by omega) (X.2 (i + 1)) (X.2 (i + 2)) hG2 hL2 (fun M3 hB => ?_)
  have hJ2 := JJ_next hA hB (wfl_strike hV hW)
  refine k_istore hK (L' := [some (.ref 1000), some (.ref 0), some (.ref 22), some (.ref 26), some (.int _), some (.int _), some (.int _), u7, u8]) ti_146_367 rfl ?_
  refine k_aload_n hK ti_146_369 rfl ?_
  refine k_callV hK (as := []) (st' := []) ti_146_370 ow_146 iv_5_94 mc_146 ms_146 rfl rfl (by omega) (Nat.le_of_ble_eq_true rfl) (Nat.le_of_ble_eq_true rfl) (by omega) (by omega) (by omega) rfl ?_
  refine sp_X4_thrown (by omega) (k_aftv (nI (u_k (fc_strike s l (X.2 (i + 1)) (X.2 (i + 2))))) hB.2.2.2 ?_)
  refine k_iload hK ti_146_373 rfl ?_
  refine kn_eq hK (by omega) (by omega) ti_146_375 jt_375_5 (fun c_375 => ?_) (fun c_375 => ?_)
  · refine k_iload hK ti_146_380 rfl ?_
    refine kz_ne hK (by omega) ti_146_382 jt_382_15 (fun c_382 => ?_) (fun c_382 => ?_)
    · rw [ho c_382]
      refine k_aload_n hK ti_146_385 rfl ?_
      refine k_iconst hK ti_146_386 kI_0 ?_
      refine k_laload hK ti_146_387 (by omega) ?_
      refine k_iload hK ti_146_388 rfl ?_
      refine k_i2l hK ti_146_390 ?_
      refine k_lcmp hK ti_146_391 ?_
      refine k_if_eq hK ti_146_392 jt_392_5 (fun c_392 => ?_) (fun c_392 => ?_)
      · refine k_goto hK ti_146_397 jt_397_1223 ?_
        exact hn _ _ _ _ _ _ _ _ _ _ hJ2 (by omega) (by omega)
      · exact absurd lgc c_392
    · refine k_goto hK ti_146_397 jt_397_1223 ?_
      exact hn _ _ _ _ _ _ _ _ _ _ hJ2 (by omega) (by omega)
  · exact absurd rfl c_375

set_option maxRecDepth 100000 in
set_option maxHeartbeats 4000000 in
theorem law_client {X : dp_X} {d : Nat} {M : dp_M} {o : Int64} {Q : dp_Q} {K : dp_K} (hK : dp_clo X (dp_run X (d + 10)) (d + 11) 146 Q K) (hX : X.1 < 2 ^ 31) {i c q : Nat} {u5 u6 u7 u8 : Option Value} (hi : i + 3 ≤ X.1) {s : GSt} {l : LSt} (hJ : JJ M s l) (hc : c + 8 ≤ 601024) (hq : q + 500 ≤ 7293034)
  (hn : ∀ (M' : dp_M) (o' : Int64) (s' : GSt) (l' : LSt) (c' q' : Nat) (u5 u6 u7 u8 : Option Value), JJ M' s' l' → c' ≤ c + 8 → q' ≤ q + 500 → K 1620 [some (.ref 1000), some (.ref 0), some (.ref 22), some (.ref 26), some (.int (nI i)), u5, u6, u7, u8] [] 65 c' q' M' o') : K 400 [some (.ref 1000), some (.ref 0), some (.ref 22), some (.ref 26), some (.int (nI i)), u5, u6, u7, u8] [] 65 c q M o := by
  obtain ⟨hC, hN, hG, hL, hV⟩ := hJ
  have hW := hG.1
  refine k_aload_n hK ti_146_400 rfl ?_
  refine k_aload_n hK ti_146_401 rfl ?_
  refine k_iload hK ti_146_402 rfl ?_
  refine k_iconst hK ti_146_404 kI_1 ?_
  refine k_iadd hK (z := (nI (i + 1))) ti_146_405 (nI_add _ _) ?_
  refine k_sald hK (i + 1) ti_146_406 rfl (by omega) hX ?_
  refine k_aload_n hK ti_146_407 rfl ?_
  refine k_callS hK (as := [.ref 0, .int _, .ref 26]) (st' := []) ti_146_408 ow_146 iv_5_107 mc_146 ms_146 rfl rfl (by omega) (Nat.le_of_ble_eq_true rfl) (Nat.le_of_ble_eq_true rfl) (by omega) (by omega) ?_
  refine sp_L_client (by omega) (X.2 (i + 1)) hC hN hV (fun M2 o2 hA ho => ?_)
  have hk2 : u_k (fc_client s l (X.2 (i + 1))) ≤ 2 := by rcases fck_client s l (X.2 (i + 1)) with e | ⟨e, e2⟩ | ⟨e, e2⟩ <;> omega
  have hG2 := RG_wC hA.1 hG
  have hL2 := RLt_wC hA.1 hL
  refine k_istore hK (L' := [some (.ref 1000), some (.ref 0), some (.ref 22), some (.ref 26), some (.int _), some (.int _), u6, u7, u8]) ti_146_411 rfl ?_
  refine k_aload_n hK ti_146_413 rfl ?_
  refine k_aload_n hK ti_146_414 rfl ?_
  refine k_iload hK ti_146_415 rfl ?_
  refine k_iconst hK ti_146_417 kI_1 ?_
  refine k_iadd hK (z := (nI (i + 1))) ti_146_418 (nI_add _ _) ?_
  refine k_sald hK (i + 1) ti_146_419 rfl (by omega) hX ?_
  refine k_callV hK (as := [.int _]) (st' := []) ti_146_420 ow_146 iv_5_110 mc_146 ms_146 rfl rfl (by omega) (Nat.le_of_ble_eq_true rfl) (Nat.le_of_ble_eq_true rfl) (by omega) (by omega) (by omega) rfl ?_
  refine sp_X4_client (by omega) (X.2 (i + 1)) hG2 hL2 (fun M3 hB => ?_)
  have hJ2 := JJ_next hA hB (wfl_client hV hW)
  refine k_istore hK (L' := [some (.ref 1000), some (.ref 0), some (.ref 22), some (.ref 26), some (.int _), some (.int _), some (.int _), u7, u8]) ti_146_423 rfl ?_
  refine k_aload_n hK ti_146_425 rfl ?_
  refine k_callV hK (as := []) (st' := []) ti_146_426 ow_146 iv_5_94 mc_146 ms_146 rfl rfl (by omega) (Nat.le_of_ble_eq_true rfl) (Nat.le_of_ble_eq_true rfl) (by omega) (by omega) (by omega) rfl ?_
  refine sp_X4_thrown (by omega) (k_aftv (nI (u_k (fc_client s l (X.2 (i + 1))))) hB.2.2.2 ?_)
  refine k_iload hK ti_146_429 rfl ?_
  refine kn_eq hK (by omega) (by omega) ti_146_431 jt_431_5 (fun c_431 => ?_) (fun c_431 => ?_)
  · refine k_iload hK ti_146_436 rfl ?_
    refine kz_ne hK (by omega) ti_146_438 jt_438_15 (fun c_438 => ?_) (fun c_438 => ?_)
    · rw [ho c_438]
      refine k_aload_n hK ti_146_441 rfl ?_
      refine k_iconst hK ti_146_442 kI_0 ?_
      refine k_laload hK ti_146_443 (by omega) ?_
      refine k_iload hK ti_146_444 rfl ?_
      refine k_i2l hK ti_146_446 ?_
      refine k_lcmp hK ti_146_447 ?_
      refine k_if_eq hK ti_146_448 jt_448_5 (fun c_448 => ?_) (fun c_448 => ?_)
      · refine k_goto hK ti_146_453 jt_453_1167 ?_
        exact hn _ _ _ _ _ _ _ _ _ _ hJ2 (by omega) (by omega)
      · exact absurd lgc c_448
    · refine k_goto hK ti_146_453 jt_453_1167 ?_
      exact hn _ _ _ _ _ _ _ _ _ _ hJ2 (by omega) (by omega)
  · exact absurd rfl c_431

set_option maxRecDepth 100000 in
set_option maxHeartbeats 4000000 in
theorem law_want {X : dp_X} {d : Nat} {M : dp_M} {o : Int64} {Q : dp_Q} {K : dp_K} (hK : dp_clo X (dp_run X (d + 10)) (d + 11) 146 Q K) (hX : X.1 < 2 ^ 31) {i c q : Nat} {u5 u6 u7 u8 : Option Value} (hi : i + 3 ≤ X.1) {s : GSt} {l : LSt} (hJ : JJ M s l) (hc : c + 8 ≤ 601024) (hq : q + 500 ≤ 7293034)
  (hn : ∀ (M' : dp_M) (o' : Int64) (s' : GSt) (l' : LSt) (c' q' : Nat) (u5 u6 u7 u8 : Option Value), JJ M' s' l' → c' ≤ c + 8 → q' ≤ q + 500 → K 1620 [some (.ref 1000), some (.ref 0), some (.ref 22), some (.ref 26), some (.int (nI i)), u5, u6, u7, u8] [] 65 c' q' M' o') : K 456 [some (.ref 1000), some (.ref 0), some (.ref 22), some (.ref 26), some (.int (nI i)), u5, u6, u7, u8] [] 65 c q M o := by
  obtain ⟨hC, hN, hG, hL, hV⟩ := hJ
  have hW := hG.1
  refine k_aload_n hK ti_146_456 rfl ?_
  refine k_aload_n hK ti_146_457 rfl ?_
  refine k_iload hK ti_146_458 rfl ?_
  refine k_iconst hK ti_146_460 kI_1 ?_
  refine k_iadd hK (z := (nI (i + 1))) ti_146_461 (nI_add _ _) ?_
  refine k_sald hK (i + 1) ti_146_462 rfl (by omega) hX ?_
  refine k_aload_n hK ti_146_463 rfl ?_
  refine k_iload hK ti_146_464 rfl ?_
  refine k_iconst hK ti_146_466 kI_2 ?_
  refine k_iadd hK (z := (nI (i + 2))) ti_146_467 (nI_add _ _) ?_
  refine k_sald hK (i + 2) ti_146_468 rfl (by omega) hX ?_
  refine k_aload_n hK ti_146_469 rfl ?_
  refine k_callS hK (as := [.ref 0, .int _, .int _, .ref 26]) (st' := []) ti_146_470 ow_146 iv_5_111 mc_146 ms_146 rfl rfl (by omega) (Nat.le_of_ble_eq_true rfl) (Nat.le_of_ble_eq_true rfl) (by omega) (by omega) ?_
  refine sp_L_want (by omega) (X.2 (i + 1)) (X.2 (i + 2)) hC hN hV (fun M2 o2 hA ho => ?_)
  have hk2 : u_k (fc_want s l (X.2 (i + 1)) (X.2 (i + 2))) ≤ 2 := by rcases fck_want s l (X.2 (i + 1)) (X.2 (i + 2)) with e | ⟨e, e2⟩ | ⟨e, e2⟩ <;> omega
  have hG2 := RG_wC hA.1 hG
  have hL2 := RLt_wC hA.1 hL
  refine k_istore hK (L' := [some (.ref 1000), some (.ref 0), some (.ref 22), some (.ref 26), some (.int _), some (.int _), u6, u7, u8]) ti_146_473 rfl ?_
  refine k_aload_n hK ti_146_475 rfl ?_
  refine k_aload_n hK ti_146_476 rfl ?_
  refine k_iload hK ti_146_477 rfl ?_
  refine k_iconst hK ti_146_479 kI_1 ?_
  refine k_iadd hK (z := (nI (i + 1))) ti_146_480 (nI_add _ _) ?_
  refine k_sald hK (i + 1) ti_146_481 rfl (by omega) hX ?_
  refine k_aload_n hK ti_146_482 rfl ?_
  refine k_iload hK ti_146_483 rfl ?_
  refine k_iconst hK ti_146_485 kI_2 ?_
  refine k_iadd hK (z := (nI (i + 2))) ti_146_486 (nI_add _ _) ?_
  refine k_sald hK (i + 2) ti_146_487 rfl (by omega) hX ?_
  refine k_callV hK (as := [.int _, .int _]) (st' := []) ti_146_488 ow_146 iv_5_113 mc_146 ms_146 rfl rfl (by omega) (Nat.le_of_ble_eq_true rfl) (Nat.le_of_ble_eq_true rfl) (by omega) (by omega) (by omega) rfl ?_
  refine sp_X4_want (by omega) (X.2 (i + 1)) (X.2 (i + 2)) hG2 hL2 (fun M3 hB => ?_)
  have hJ2 := JJ_next hA hB (wfl_want hV hW)
  refine k_istore hK (L' := [some (.ref 1000), some (.ref 0), some (.ref 22), some (.ref 26), some (.int _), some (.int _), some (.int _), u7, u8]) ti_146_491 rfl ?_
  refine k_aload_n hK ti_146_493 rfl ?_
  refine k_callV hK (as := []) (st' := []) ti_146_494 ow_146 iv_5_94 mc_146 ms_146 rfl rfl (by omega) (Nat.le_of_ble_eq_true rfl) (Nat.le_of_ble_eq_true rfl) (by omega) (by omega) (by omega) rfl ?_
  refine sp_X4_thrown (by omega) (k_aftv (nI (u_k (fc_want s l (X.2 (i + 1)) (X.2 (i + 2))))) hB.2.2.2 ?_)
  refine k_iload hK ti_146_497 rfl ?_
  refine kn_eq hK (by omega) (by omega) ti_146_499 jt_499_5 (fun c_499 => ?_) (fun c_499 => ?_)
  · refine k_iload hK ti_146_504 rfl ?_
    refine kz_ne hK (by omega) ti_146_506 jt_506_15 (fun c_506 => ?_) (fun c_506 => ?_)
    · rw [ho c_506]
      refine k_aload_n hK ti_146_509 rfl ?_
      refine k_iconst hK ti_146_510 kI_0 ?_
      refine k_laload hK ti_146_511 (by omega) ?_
      refine k_iload hK ti_146_512 rfl ?_
      refine k_i2l hK ti_146_514 ?_
      refine k_lcmp hK ti_146_515 ?_
      refine k_if_eq hK ti_146_516 jt_516_5 (fun c_516 => ?_) (fun c_516 => ?_)
      · refine k_goto hK ti_146_521 jt_521_1099 ?_
        exact hn _ _ _ _ _ _ _ _ _ _ hJ2 (by omega) (by omega)
      · exact absurd lgc c_516
    · refine k_goto hK ti_146_521 jt_521_1099 ?_
      exact hn _ _ _ _ _ _ _ _ _ _ hJ2 (by omega) (by omega)
  · exact absurd rfl c_499

set_option maxRecDepth 100000 in
set_option maxHeartbeats 4000000 in
theorem law_drop {X : dp_X} {d : Nat} {M : dp_M} {o : Int64} {Q : dp_Q} {K : dp_K} (hK : dp_clo X (dp_run X (d + 10)) (d + 11) 146 Q K) (hX : X.1 < 2 ^ 31) {i c q : Nat} {u5 u6 u7 u8 : Option Value} (hi : i + 3 ≤ X.1) {s : GSt} {l : LSt} (hJ : JJ M s l) (hc : c + 8 ≤ 601024) (hq : q + 500 ≤ 7293034)
  (hn : ∀ (M' : dp_M) (o' : Int64) (s' : GSt) (l' : LSt) (c' q' : Nat) (u5 u6 u7 u8 : Option Value), JJ M' s' l' → c' ≤ c + 8 → q' ≤ q + 500 → K 1620 [some (.ref 1000), some (.ref 0), some (.ref 22), some (.ref 26), some (.int (nI i)), u5, u6, u7, u8] [] 65 c' q' M' o') : K 524 [some (.ref 1000), some (.ref 0), some (.ref 22), some (.ref 26), some (.int (nI i)), u5, u6, u7, u8] [] 65 c q M o := by
  obtain ⟨hC, hN, hG, hL, hV⟩ := hJ
  have hW := hG.1
  refine k_aload_n hK ti_146_524 rfl ?_
  refine k_aload_n hK ti_146_525 rfl ?_
  refine k_iload hK ti_146_526 rfl ?_
  refine k_iconst hK ti_146_528 kI_1 ?_
  refine k_iadd hK (z := (nI (i + 1))) ti_146_529 (nI_add _ _) ?_
  refine k_sald hK (i + 1) ti_146_530 rfl (by omega) hX ?_
  refine k_aload_n hK ti_146_531 rfl ?_
  refine k_iload hK ti_146_532 rfl ?_
  refine k_iconst hK ti_146_534 kI_2 ?_
  refine k_iadd hK (z := (nI (i + 2))) ti_146_535 (nI_add _ _) ?_
  refine k_sald hK (i + 2) ti_146_536 rfl (by omega) hX ?_
  refine k_aload_n hK ti_146_537 rfl ?_
  refine k_callS hK (as := [.ref 0, .int _, .int _, .ref 26]) (st' := []) ti_146_538 ow_146 iv_5_114 mc_146 ms_146 rfl rfl (by omega) (Nat.le_of_ble_eq_true rfl) (Nat.le_of_ble_eq_true rfl) (by omega) (by omega) ?_
  refine sp_L_drop (by omega) (X.2 (i + 1)) (X.2 (i + 2)) hC hN hV (fun M2 o2 hA ho => ?_)
  have hk2 : u_k (fc_drop s l (X.2 (i + 1)) (X.2 (i + 2))) ≤ 2 := by rcases fck_drop s l (X.2 (i + 1)) (X.2 (i + 2)) with e | ⟨e, e2⟩ | ⟨e, e2⟩ <;> omega
  have hG2 := RG_wC hA.1 hG
  have hL2 := RLt_wC hA.1 hL
  refine k_istore hK (L' := [some (.ref 1000), some (.ref 0), some (.ref 22), some (.ref 26), some (.int _), some (.int _), u6, u7, u8]) ti_146_541 rfl ?_
  refine k_aload_n hK ti_146_543 rfl ?_
  refine k_aload_n hK ti_146_544 rfl ?_
  refine k_iload hK ti_146_545 rfl ?_
  refine k_iconst hK ti_146_547 kI_1 ?_
  refine k_iadd hK (z := (nI (i + 1))) ti_146_548 (nI_add _ _) ?_
  refine k_sald hK (i + 1) ti_146_549 rfl (by omega) hX ?_
  refine k_aload_n hK ti_146_550 rfl ?_
  refine k_iload hK ti_146_551 rfl ?_
  refine k_iconst hK ti_146_553 kI_2 ?_
  refine k_iadd hK (z := (nI (i + 2))) ti_146_554 (nI_add _ _) ?_
  refine k_sald hK (i + 2) ti_146_555 rfl (by omega) hX ?_
  refine k_callV hK (as := [.int _, .int _]) (st' := []) ti_146_556 ow_146 iv_5_116 mc_146 ms_146 rfl rfl (by omega) (Nat.le_of_ble_eq_true rfl) (Nat.le_of_ble_eq_true rfl) (by omega) (by omega) (by omega) rfl ?_
  refine sp_X4_drop (by omega) (X.2 (i + 1)) (X.2 (i + 2)) hG2 hL2 (fun M3 hB => ?_)
  have hJ2 := JJ_next hA hB (wfl_drop hV hW)
  refine k_istore hK (L' := [some (.ref 1000), some (.ref 0), some (.ref 22), some (.ref 26), some (.int _), some (.int _), some (.int _), u7, u8]) ti_146_559 rfl ?_
  refine k_aload_n hK ti_146_561 rfl ?_
  refine k_callV hK (as := []) (st' := []) ti_146_562 ow_146 iv_5_94 mc_146 ms_146 rfl rfl (by omega) (Nat.le_of_ble_eq_true rfl) (Nat.le_of_ble_eq_true rfl) (by omega) (by omega) (by omega) rfl ?_
  refine sp_X4_thrown (by omega) (k_aftv (nI (u_k (fc_drop s l (X.2 (i + 1)) (X.2 (i + 2))))) hB.2.2.2 ?_)
  refine k_iload hK ti_146_565 rfl ?_
  refine kn_eq hK (by omega) (by omega) ti_146_567 jt_567_5 (fun c_567 => ?_) (fun c_567 => ?_)
  · refine k_iload hK ti_146_572 rfl ?_
    refine kz_ne hK (by omega) ti_146_574 jt_574_15 (fun c_574 => ?_) (fun c_574 => ?_)
    · rw [ho c_574]
      refine k_aload_n hK ti_146_577 rfl ?_
      refine k_iconst hK ti_146_578 kI_0 ?_
      refine k_laload hK ti_146_579 (by omega) ?_
      refine k_iload hK ti_146_580 rfl ?_
      refine k_i2l hK ti_146_582 ?_
      refine k_lcmp hK ti_146_583 ?_
      refine k_if_eq hK ti_146_584 jt_584_5 (fun c_584 => ?_) (fun c_584 => ?_)
      · refine k_goto hK ti_146_589 jt_589_1031 ?_
        exact hn _ _ _ _ _ _ _ _ _ _ hJ2 (by omega) (by omega)
      · exact absurd lgc c_584
    · refine k_goto hK ti_146_589 jt_589_1031 ?_
      exact hn _ _ _ _ _ _ _ _ _ _ hJ2 (by omega) (by omega)
  · exact absurd rfl c_567

set_option maxRecDepth 100000 in
set_option maxHeartbeats 4000000 in
theorem law_setBar {X : dp_X} {d : Nat} {M : dp_M} {o : Int64} {Q : dp_Q} {K : dp_K} (hK : dp_clo X (dp_run X (d + 10)) (d + 11) 146 Q K) (hX : X.1 < 2 ^ 31) {i c q : Nat} {u5 u6 u7 u8 : Option Value} (hi : i + 3 ≤ X.1) {s : GSt} {l : LSt} (hJ : JJ M s l) (hc : c + 8 ≤ 601024) (hq : q + 500 ≤ 7293034)
  (hn : ∀ (M' : dp_M) (o' : Int64) (s' : GSt) (l' : LSt) (c' q' : Nat) (u5 u6 u7 u8 : Option Value), JJ M' s' l' → c' ≤ c + 8 → q' ≤ q + 500 → K 1620 [some (.ref 1000), some (.ref 0), some (.ref 22), some (.ref 26), some (.int (nI i)), u5, u6, u7, u8] [] 65 c' q' M' o') : K 592 [some (.ref 1000), some (.ref 0), some (.ref 22), some (.ref 26), some (.int (nI i)), u5, u6, u7, u8] [] 65 c q M o := by
  obtain ⟨hC, hN, hG, hL, hV⟩ := hJ
  have hW := hG.1
  refine k_aload_n hK ti_146_592 rfl ?_
  refine k_aload_n hK ti_146_593 rfl ?_
  refine k_iload hK ti_146_594 rfl ?_
  refine k_iconst hK ti_146_596 kI_1 ?_
  refine k_iadd hK (z := (nI (i + 1))) ti_146_597 (nI_add _ _) ?_
  refine k_sald hK (i + 1) ti_146_598 rfl (by omega) hX ?_
  refine k_aload_n hK ti_146_599 rfl ?_
  refine k_iload hK ti_146_600 rfl ?_
  refine k_iconst hK ti_146_602 kI_2 ?_
  refine k_iadd hK (z := (nI (i + 2))) ti_146_603 (nI_add _ _) ?_
  refine k_sald hK (i + 2) ti_146_604 rfl (by omega) hX ?_
  refine k_aload_n hK ti_146_605 rfl ?_
  refine k_callS hK (as := [.ref 0, .int _, .int _, .ref 26]) (st' := []) ti_146_606 ow_146 iv_5_117 mc_146 ms_146 rfl rfl (by omega) (Nat.le_of_ble_eq_true rfl) (Nat.le_of_ble_eq_true rfl) (by omega) (by omega) ?_
  refine sp_L_setBar (by omega) (X.2 (i + 1)) (X.2 (i + 2)) hC hN hV (fun M2 o2 hA ho => ?_)
  have hk2 : u_k (fc_setBar s l (X.2 (i + 1)) (X.2 (i + 2))) ≤ 2 := by rcases fck_setBar s l (X.2 (i + 1)) (X.2 (i + 2)) with e | ⟨e, e2⟩ | ⟨e, e2⟩ <;> omega
  have hG2 := RG_wC hA.1 hG
  have hL2 := RLt_wC hA.1 hL
  refine k_istore hK (L' := [some (.ref 1000), some (.ref 0), some (.ref 22), some (.ref 26), some (.int _), some (.int _), u6, u7, u8]) ti_146_609 rfl ?_
  refine k_aload_n hK ti_146_611 rfl ?_
  refine k_aload_n hK ti_146_612 rfl ?_
  refine k_iload hK ti_146_613 rfl ?_
  refine k_iconst hK ti_146_615 kI_1 ?_
  refine k_iadd hK (z := (nI (i + 1))) ti_146_616 (nI_add _ _) ?_
  refine k_sald hK (i + 1) ti_146_617 rfl (by omega) hX ?_
  refine k_aload_n hK ti_146_618 rfl ?_
  refine k_iload hK ti_146_619 rfl ?_
  refine k_iconst hK ti_146_621 kI_2 ?_
  refine k_iadd hK (z := (nI (i + 2))) ti_146_622 (nI_add _ _) ?_
  refine k_sald hK (i + 2) ti_146_623 rfl (by omega) hX ?_
  refine k_callV hK (as := [.int _, .int _]) (st' := []) ti_146_624 ow_146 iv_5_119 mc_146 ms_146 rfl rfl (by omega) (Nat.le_of_ble_eq_true rfl) (Nat.le_of_ble_eq_true rfl) (by omega) (by omega) (by omega) rfl ?_
  refine sp_X4_setBar (by omega) (X.2 (i + 1)) (X.2 (i + 2)) hG2 hL2 (fun M3 hB => ?_)
  have hJ2 := JJ_next hA hB (wfl_setBar hV hW)
  refine k_istore hK (L' := [some (.ref 1000), some (.ref 0), some (.ref 22), some (.ref 26), some (.int _), some (.int _), some (.int _), u7, u8]) ti_146_627 rfl ?_
  refine k_aload_n hK ti_146_629 rfl ?_
  refine k_callV hK (as := []) (st' := []) ti_146_630 ow_146 iv_5_94 mc_146 ms_146 rfl rfl (by omega) (Nat.le_of_ble_eq_true rfl) (Nat.le_of_ble_eq_true rfl) (by omega) (by omega) (by omega) rfl ?_
  refine sp_X4_thrown (by omega) (k_aftv (nI (u_k (fc_setBar s l (X.2 (i + 1)) (X.2 (i + 2))))) hB.2.2.2 ?_)
  refine k_iload hK ti_146_633 rfl ?_
  refine kn_eq hK (by omega) (by omega) ti_146_635 jt_635_5 (fun c_635 => ?_) (fun c_635 => ?_)
  · refine k_iload hK ti_146_640 rfl ?_
    refine kz_ne hK (by omega) ti_146_642 jt_642_15 (fun c_642 => ?_) (fun c_642 => ?_)
    · rw [ho c_642]
      refine k_aload_n hK ti_146_645 rfl ?_
      refine k_iconst hK ti_146_646 kI_0 ?_
      refine k_laload hK ti_146_647 (by omega) ?_
      refine k_iload hK ti_146_648 rfl ?_
      refine k_i2l hK ti_146_650 ?_
      refine k_lcmp hK ti_146_651 ?_
      refine k_if_eq hK ti_146_652 jt_652_5 (fun c_652 => ?_) (fun c_652 => ?_)
      · refine k_goto hK ti_146_657 jt_657_963 ?_
        exact hn _ _ _ _ _ _ _ _ _ _ hJ2 (by omega) (by omega)
      · exact absurd lgc c_652
    · refine k_goto hK ti_146_657 jt_657_963 ?_
      exact hn _ _ _ _ _ _ _ _ _ _ hJ2 (by omega) (by omega)
  · exact absurd rfl c_635

set_option maxRecDepth 100000 in
set_option maxHeartbeats 4000000 in
theorem law_pay {X : dp_X} {d : Nat} {M : dp_M} {o : Int64} {Q : dp_Q} {K : dp_K} (hK : dp_clo X (dp_run X (d + 10)) (d + 11) 146 Q K) (hX : X.1 < 2 ^ 31) {i c q : Nat} {u5 u6 u7 u8 : Option Value} (hi : i + 3 ≤ X.1) {s : GSt} {l : LSt} (hJ : JJ M s l) (hc : c + 8 ≤ 601024) (hq : q + 500 ≤ 7293034)
  (hn : ∀ (M' : dp_M) (o' : Int64) (s' : GSt) (l' : LSt) (c' q' : Nat) (u5 u6 u7 u8 : Option Value), JJ M' s' l' → c' ≤ c + 8 → q' ≤ q + 500 → K 1620 [some (.ref 1000), some (.ref 0), some (.ref 22), some (.ref 26), some (.int (nI i)), u5, u6, u7, u8] [] 65 c' q' M' o') : K 660 [some (.ref 1000), some (.ref 0), some (.ref 22), some (.ref 26), some (.int (nI i)), u5, u6, u7, u8] [] 65 c q M o := by
  obtain ⟨hC, hN, hG, hL, hV⟩ := hJ
  have hW := hG.1
  refine k_aload_n hK ti_146_660 rfl ?_
  refine k_aload_n hK ti_146_661 rfl ?_
  refine k_iload hK ti_146_662 rfl ?_
  refine k_iconst hK ti_146_664 kI_1 ?_
  refine k_iadd hK (z := (nI (i + 1))) ti_146_665 (nI_add _ _) ?_
  refine k_sald hK (i + 1) ti_146_666 rfl (by omega) hX ?_
  refine k_aload_n hK ti_146_667 rfl ?_
  refine k_iload hK ti_146_668 rfl ?_
  refine k_iconst hK ti_146_670 kI_2 ?_
  refine k_iadd hK (z := (nI (i + 2))) ti_146_671 (nI_add _ _) ?_
  refine k_sald hK (i + 2) ti_146_672 rfl (by omega) hX ?_
  refine k_aload_n hK ti_146_673 rfl ?_
  refine k_callS hK (as := [.ref 0, .int _, .int _, .ref 26]) (st' := []) ti_146_674 ow_146 iv_5_120 mc_146 ms_146 rfl rfl (by omega) (Nat.le_of_ble_eq_true rfl) (Nat.le_of_ble_eq_true rfl) (by omega) (by omega) ?_
  refine sp_L_pay (by omega) (X.2 (i + 1)) (X.2 (i + 2)) hC hN hV (fun M2 o2 hA ho => ?_)
  have hk2 : u_k (fc_pay s l (X.2 (i + 1)) (X.2 (i + 2))) ≤ 2 := by rcases fck_pay s l (X.2 (i + 1)) (X.2 (i + 2)) with e | ⟨e, e2⟩ | ⟨e, e2⟩ <;> omega
  have hG2 := RG_wC hA.1 hG
  have hL2 := RLt_wC hA.1 hL
  refine k_istore hK (L' := [some (.ref 1000), some (.ref 0), some (.ref 22), some (.ref 26), some (.int _), some (.int _), u6, u7, u8]) ti_146_677 rfl ?_
  refine k_aload_n hK ti_146_679 rfl ?_
  refine k_aload_n hK ti_146_680 rfl ?_
  refine k_iload hK ti_146_681 rfl ?_
  refine k_iconst hK ti_146_683 kI_1 ?_
  refine k_iadd hK (z := (nI (i + 1))) ti_146_684 (nI_add _ _) ?_
  refine k_sald hK (i + 1) ti_146_685 rfl (by omega) hX ?_
  refine k_aload_n hK ti_146_686 rfl ?_
  refine k_iload hK ti_146_687 rfl ?_
  refine k_iconst hK ti_146_689 kI_2 ?_
  refine k_iadd hK (z := (nI (i + 2))) ti_146_690 (nI_add _ _) ?_
  refine k_sald hK (i + 2) ti_146_691 rfl (by omega) hX ?_
  refine k_callV hK (as := [.int _, .int _]) (st' := []) ti_146_692 ow_146 iv_5_122 mc_146 ms_146 rfl rfl (by omega) (Nat.le_of_ble_eq_true rfl) (Nat.le_of_ble_eq_true rfl) (by omega) (by omega) (by omega) rfl ?_
  refine sp_X4_pay (by omega) (X.2 (i + 1)) (X.2 (i + 2)) hG2 hL2 (fun M3 hB => ?_)
  have hJ2 := JJ_next hA hB (wfl_pay hV hW)
  refine k_istore hK (L' := [some (.ref 1000), some (.ref 0), some (.ref 22), some (.ref 26), some (.int _), some (.int _), some (.int _), u7, u8]) ti_146_695 rfl ?_
  refine k_aload_n hK ti_146_697 rfl ?_
  refine k_callV hK (as := []) (st' := []) ti_146_698 ow_146 iv_5_94 mc_146 ms_146 rfl rfl (by omega) (Nat.le_of_ble_eq_true rfl) (Nat.le_of_ble_eq_true rfl) (by omega) (by omega) (by omega) rfl ?_
  refine sp_X4_thrown (by omega) (k_aftv (nI (u_k (fc_pay s l (X.2 (i + 1)) (X.2 (i + 2))))) hB.2.2.2 ?_)
  refine k_iload hK ti_146_701 rfl ?_
  refine kn_eq hK (by omega) (by omega) ti_146_703 jt_703_5 (fun c_703 => ?_) (fun c_703 => ?_)
  · refine k_iload hK ti_146_708 rfl ?_
    refine kz_ne hK (by omega) ti_146_710 jt_710_15 (fun c_710 => ?_) (fun c_710 => ?_)
    · rw [ho c_710]
      refine k_aload_n hK ti_146_713 rfl ?_
      refine k_iconst hK ti_146_714 kI_0 ?_
      refine k_laload hK ti_146_715 (by omega) ?_
      refine k_iload hK ti_146_716 rfl ?_
      refine k_i2l hK ti_146_718 ?_
      refine k_lcmp hK ti_146_719 ?_
      refine k_if_eq hK ti_146_720 jt_720_5 (fun c_720 => ?_) (fun c_720 => ?_)
      · refine k_goto hK ti_146_725 jt_725_895 ?_
        exact hn _ _ _ _ _ _ _ _ _ _ hJ2 (by omega) (by omega)
      · exact absurd lgc c_720
    · refine k_goto hK ti_146_725 jt_725_895 ?_
      exact hn _ _ _ _ _ _ _ _ _ _ hJ2 (by omega) (by omega)
  · exact absurd rfl c_703

set_option maxRecDepth 100000 in
set_option maxHeartbeats 4000000 in
theorem law_send {X : dp_X} {d : Nat} {M : dp_M} {o : Int64} {Q : dp_Q} {K : dp_K} (hK : dp_clo X (dp_run X (d + 10)) (d + 11) 146 Q K) (hX : X.1 < 2 ^ 31) {i c q : Nat} {u5 u6 u7 u8 : Option Value} (hi : i + 3 ≤ X.1) {s : GSt} {l : LSt} (hJ : JJ M s l) (hc : c + 8 ≤ 601024) (hq : q + 500 ≤ 7293034)
  (hn : ∀ (M' : dp_M) (o' : Int64) (s' : GSt) (l' : LSt) (c' q' : Nat) (u5 u6 u7 u8 : Option Value), JJ M' s' l' → c' ≤ c + 8 → q' ≤ q + 500 → K 1620 [some (.ref 1000), some (.ref 0), some (.ref 22), some (.ref 26), some (.int (nI i)), u5, u6, u7, u8] [] 65 c' q' M' o') : K 728 [some (.ref 1000), some (.ref 0), some (.ref 22), some (.ref 26), some (.int (nI i)), u5, u6, u7, u8] [] 65 c q M o := by
  obtain ⟨hC, hN, hG, hL, hV⟩ := hJ
  have hW := hG.1
  refine k_aload_n hK ti_146_728 rfl ?_
  refine k_aload_n hK ti_146_729 rfl ?_
  refine k_iload hK ti_146_730 rfl ?_
  refine k_iconst hK ti_146_732 kI_1 ?_
  refine k_iadd hK (z := (nI (i + 1))) ti_146_733 (nI_add _ _) ?_
  refine k_sald hK (i + 1) ti_146_734 rfl (by omega) hX ?_
  refine k_aload_n hK ti_146_735 rfl ?_
  refine k_callS hK (as := [.ref 0, .int _, .ref 26]) (st' := []) ti_146_736 ow_146 iv_5_123 mc_146 ms_146 rfl rfl (by omega) (Nat.le_of_ble_eq_true rfl) (Nat.le_of_ble_eq_true rfl) (by omega) (by omega) ?_
  refine sp_L_send (by omega) (X.2 (i + 1)) hC hN hV (fun M2 o2 hA ho => ?_)
  have hk2 : u_k (fc_send s l (X.2 (i + 1))) ≤ 2 := by rcases fck_send s l (X.2 (i + 1)) with e | ⟨e, e2⟩ <;> omega
  have hG2 := RG_wC hA.1 hG
  have hL2 := RLt_wC hA.1 hL
  refine k_istore hK (L' := [some (.ref 1000), some (.ref 0), some (.ref 22), some (.ref 26), some (.int _), some (.int _), u6, u7, u8]) ti_146_739 rfl ?_
  refine k_aload_n hK ti_146_741 rfl ?_
  refine k_aload_n hK ti_146_742 rfl ?_
  refine k_iload hK ti_146_743 rfl ?_
  refine k_iconst hK ti_146_745 kI_1 ?_
  refine k_iadd hK (z := (nI (i + 1))) ti_146_746 (nI_add _ _) ?_
  refine k_sald hK (i + 1) ti_146_747 rfl (by omega) hX ?_
  refine k_callV hK (as := [.int _]) (st' := []) ti_146_748 ow_146 iv_5_125 mc_146 ms_146 rfl rfl (by omega) (Nat.le_of_ble_eq_true rfl) (Nat.le_of_ble_eq_true rfl) (by omega) (by omega) (by omega) rfl ?_
  refine sp_X4_send (by omega) (X.2 (i + 1)) hG2 hL2 (fun M3 hB => ?_)
  have hJ2 := JJ_next hA hB (wfl_send hV hW)
  refine k_istore hK (L' := [some (.ref 1000), some (.ref 0), some (.ref 22), some (.ref 26), some (.int _), some (.int _), some (.int _), u7, u8]) ti_146_751 rfl ?_
  refine k_aload_n hK ti_146_753 rfl ?_
  refine k_callV hK (as := []) (st' := []) ti_146_754 ow_146 iv_5_94 mc_146 ms_146 rfl rfl (by omega) (Nat.le_of_ble_eq_true rfl) (Nat.le_of_ble_eq_true rfl) (by omega) (by omega) (by omega) rfl ?_
  refine sp_X4_thrown (by omega) (k_aftv (nI (u_k (fc_send s l (X.2 (i + 1))))) hB.2.2.2 ?_)
  refine k_iload hK ti_146_757 rfl ?_
  refine kn_eq hK (by omega) (by omega) ti_146_759 jt_759_5 (fun c_759 => ?_) (fun c_759 => ?_)
  · refine k_iload hK ti_146_764 rfl ?_
    refine kz_ne hK (by omega) ti_146_766 jt_766_15 (fun c_766 => ?_) (fun c_766 => ?_)
    · rw [ho c_766]
      refine k_aload_n hK ti_146_769 rfl ?_
      refine k_iconst hK ti_146_770 kI_0 ?_
      refine k_laload hK ti_146_771 (by omega) ?_
      refine k_iload hK ti_146_772 rfl ?_
      refine k_i2l hK ti_146_774 ?_
      refine k_lcmp hK ti_146_775 ?_
      refine k_if_eq hK ti_146_776 jt_776_5 (fun c_776 => ?_) (fun c_776 => ?_)
      · refine k_goto hK ti_146_781 jt_781_839 ?_
        exact hn _ _ _ _ _ _ _ _ _ _ hJ2 (by omega) (by omega)
      · exact absurd lgc c_776
    · refine k_goto hK ti_146_781 jt_781_839 ?_
      exact hn _ _ _ _ _ _ _ _ _ _ hJ2 (by omega) (by omega)
  · exact absurd rfl c_759

set_option maxRecDepth 100000 in
set_option maxHeartbeats 4000000 in
theorem law_pass {X : dp_X} {d : Nat} {M : dp_M} {o : Int64} {Q : dp_Q} {K : dp_K} (hK : dp_clo X (dp_run X (d + 10)) (d + 11) 146 Q K) (hX : X.1 < 2 ^ 31) {i c q : Nat} {u5 u6 u7 u8 : Option Value} (hi : i + 3 ≤ X.1) {s : GSt} {l : LSt} (hJ : JJ M s l) (hc : c + 8 ≤ 601024) (hq : q + 500 ≤ 7293034)
  (hn : ∀ (M' : dp_M) (o' : Int64) (s' : GSt) (l' : LSt) (c' q' : Nat) (u5 u6 u7 u8 : Option Value), JJ M' s' l' → c' ≤ c + 8 → q' ≤ q + 500 → K 1620 [some (.ref 1000), some (.ref 0), some (.ref 22), some (.ref 26), some (.int (nI i)), u5, u6, u7, u8] [] 65 c' q' M' o') : K 784 [some (.ref 1000), some (.ref 0), some (.ref 22), some (.ref 26), some (.int (nI i)), u5, u6, u7, u8] [] 65 c q M o := by
  obtain ⟨hC, hN, hG, hL, hV⟩ := hJ
  have hW := hG.1
  refine k_aload_n hK ti_146_784 rfl ?_
  refine k_aload_n hK ti_146_785 rfl ?_
  refine k_iload hK ti_146_786 rfl ?_
  refine k_iconst hK ti_146_788 kI_1 ?_
  refine k_iadd hK (z := (nI (i + 1))) ti_146_789 (nI_add _ _) ?_
  refine k_sald hK (i + 1) ti_146_790 rfl (by omega) hX ?_
  refine k_aload_n hK ti_146_791 rfl ?_
  refine k_callS hK (as := [.ref 0, .int _, .ref 26]) (st' := []) ti_146_792 ow_146 iv_5_126 mc_146 ms_146 rfl rfl (by omega) (Nat.le_of_ble_eq_true rfl) (Nat.le_of_ble_eq_true rfl) (by omega) (by omega) ?_
  refine sp_L_pass (by omega) (X.2 (i + 1)) hC hN hV (fun M2 o2 hA ho => ?_)
  have hk2 : u_k (fc_pass s l (X.2 (i + 1))) ≤ 2 := by rcases fck_pass s l (X.2 (i + 1)) with e | ⟨e, e2⟩ <;> omega
  have hG2 := RG_wC hA.1 hG
  have hL2 := RLt_wC hA.1 hL
  refine k_istore hK (L' := [some (.ref 1000), some (.ref 0), some (.ref 22), some (.ref 26), some (.int _), some (.int _), u6, u7, u8]) ti_146_795 rfl ?_
  refine k_aload_n hK ti_146_797 rfl ?_
  refine k_aload_n hK ti_146_798 rfl ?_
  refine k_iload hK ti_146_799 rfl ?_
  refine k_iconst hK ti_146_801 kI_1 ?_
  refine k_iadd hK (z := (nI (i + 1))) ti_146_802 (nI_add _ _) ?_
  refine k_sald hK (i + 1) ti_146_803 rfl (by omega) hX ?_
  refine k_callV hK (as := [.int _]) (st' := []) ti_146_804 ow_146 iv_5_128 mc_146 ms_146 rfl rfl (by omega) (Nat.le_of_ble_eq_true rfl) (Nat.le_of_ble_eq_true rfl) (by omega) (by omega) (by omega) rfl ?_
  refine sp_X4_pass (by omega) (X.2 (i + 1)) hG2 hL2 (fun M3 hB => ?_)
  have hJ2 := JJ_next hA hB (wfl_pass hV hW)
  refine k_istore hK (L' := [some (.ref 1000), some (.ref 0), some (.ref 22), some (.ref 26), some (.int _), some (.int _), some (.int _), u7, u8]) ti_146_807 rfl ?_
  refine k_aload_n hK ti_146_809 rfl ?_
  refine k_callV hK (as := []) (st' := []) ti_146_810 ow_146 iv_5_94 mc_146 ms_146 rfl rfl (by omega) (Nat.le_of_ble_eq_true rfl) (Nat.le_of_ble_eq_true rfl) (by omega) (by omega) (by omega) rfl ?_
  refine sp_X4_thrown (by omega) (k_aftv (nI (u_k (fc_pass s l (X.2 (i + 1))))) hB.2.2.2 ?_)
  refine k_iload hK ti_146_813 rfl ?_
  refine kn_eq hK (by omega) (by omega) ti_146_815 jt_815_5 (fun c_815 => ?_) (fun c_815 => ?_)
  · refine k_iload hK ti_146_820 rfl ?_
    refine kz_ne hK (by omega) ti_146_822 jt_822_15 (fun c_822 => ?_) (fun c_822 => ?_)
    · rw [ho c_822]
      refine k_aload_n hK ti_146_825 rfl ?_
      refine k_iconst hK ti_146_826 kI_0 ?_
      refine k_laload hK ti_146_827 (by omega) ?_
      refine k_iload hK ti_146_828 rfl ?_
      refine k_i2l hK ti_146_830 ?_
      refine k_lcmp hK ti_146_831 ?_
      refine k_if_eq hK ti_146_832 jt_832_5 (fun c_832 => ?_) (fun c_832 => ?_)
      · refine k_goto hK ti_146_837 jt_837_783 ?_
        exact hn _ _ _ _ _ _ _ _ _ _ hJ2 (by omega) (by omega)
      · exact absurd lgc c_832
    · refine k_goto hK ti_146_837 jt_837_783 ?_
      exact hn _ _ _ _ _ _ _ _ _ _ hJ2 (by omega) (by omega)
  · exact absurd rfl c_815

set_option maxRecDepth 100000 in
set_option maxHeartbeats 4000000 in
theorem law_told {X : dp_X} {d : Nat} {M : dp_M} {o : Int64} {Q : dp_Q} {K : dp_K} (hK : dp_clo X (dp_run X (d + 10)) (d + 11) 146 Q K) (hX : X.1 < 2 ^ 31) {i c q : Nat} {u5 u6 u7 u8 : Option Value} (hi : i + 3 ≤ X.1) {s : GSt} {l : LSt} (hJ : JJ M s l) (hc : c + 8 ≤ 601024) (hq : q + 500 ≤ 7293034)
  (hn : ∀ (M' : dp_M) (o' : Int64) (s' : GSt) (l' : LSt) (c' q' : Nat) (u5 u6 u7 u8 : Option Value), JJ M' s' l' → c' ≤ c + 8 → q' ≤ q + 500 → K 1620 [some (.ref 1000), some (.ref 0), some (.ref 22), some (.ref 26), some (.int (nI i)), u5, u6, u7, u8] [] 65 c' q' M' o') : K 840 [some (.ref 1000), some (.ref 0), some (.ref 22), some (.ref 26), some (.int (nI i)), u5, u6, u7, u8] [] 65 c q M o := by
  obtain ⟨hC, hN, hG, hL, hV⟩ := hJ
  have hW := hG.1
  refine k_aload_n hK ti_146_840 rfl ?_
  refine k_aload_n hK ti_146_841 rfl ?_
  refine k_iload hK ti_146_842 rfl ?_
  refine k_iconst hK ti_146_844 kI_1 ?_
  refine k_iadd hK (z := (nI (i + 1))) ti_146_845 (nI_add _ _) ?_
  refine k_sald hK (i + 1) ti_146_846 rfl (by omega) hX ?_
  refine k_aload_n hK ti_146_847 rfl ?_
  refine k_iload hK ti_146_848 rfl ?_
  refine k_iconst hK ti_146_850 kI_2 ?_
  refine k_iadd hK (z := (nI (i + 2))) ti_146_851 (nI_add _ _) ?_
  refine k_sald hK (i + 2) ti_146_852 rfl (by omega) hX ?_
  refine k_aload_n hK ti_146_853 rfl ?_
  refine k_callS hK (as := [.ref 0, .int _, .int _, .ref 26]) (st' := []) ti_146_854 ow_146 iv_5_129 mc_146 ms_146 rfl rfl (by omega) (Nat.le_of_ble_eq_true rfl) (Nat.le_of_ble_eq_true rfl) (by omega) (by omega) ?_
  refine sp_L_told (by omega) (X.2 (i + 1)) (X.2 (i + 2)) hC hN hV (fun M2 o2 hA ho => ?_)
  have hk2 : u_k (fc_told s l (X.2 (i + 1)) (X.2 (i + 2))) ≤ 2 := by rcases fck_told s l (X.2 (i + 1)) (X.2 (i + 2)) with e | ⟨e, e2⟩ <;> omega
  have hG2 := RG_wC hA.1 hG
  have hL2 := RLt_wC hA.1 hL
  refine k_istore hK (L' := [some (.ref 1000), some (.ref 0), some (.ref 22), some (.ref 26), some (.int _), some (.int _), u6, u7, u8]) ti_146_857 rfl ?_
  refine k_aload_n hK ti_146_859 rfl ?_
  refine k_aload_n hK ti_146_860 rfl ?_
  refine k_iload hK ti_146_861 rfl ?_
  refine k_iconst hK ti_146_863 kI_1 ?_
  refine k_iadd hK (z := (nI (i + 1))) ti_146_864 (nI_add _ _) ?_
  refine k_sald hK (i + 1) ti_146_865 rfl (by omega) hX ?_
  refine k_aload_n hK ti_146_866 rfl ?_
  refine k_iload hK ti_146_867 rfl ?_
  refine k_iconst hK ti_146_869 kI_2 ?_
  refine k_iadd hK (z := (nI (i + 2))) ti_146_870 (nI_add _ _) ?_
  refine k_sald hK (i + 2) ti_146_871 rfl (by omega) hX ?_
  refine k_callV hK (as := [.int _, .int _]) (st' := []) ti_146_872 ow_146 iv_5_131 mc_146 ms_146 rfl rfl (by omega) (Nat.le_of_ble_eq_true rfl) (Nat.le_of_ble_eq_true rfl) (by omega) (by omega) (by omega) rfl ?_
  refine sp_X4_told (by omega) (X.2 (i + 1)) (X.2 (i + 2)) hG2 hL2 (fun M3 hB => ?_)
  have hJ2 := JJ_next hA hB (wfl_told hV hW)
  refine k_istore hK (L' := [some (.ref 1000), some (.ref 0), some (.ref 22), some (.ref 26), some (.int _), some (.int _), some (.int _), u7, u8]) ti_146_875 rfl ?_
  refine k_aload_n hK ti_146_877 rfl ?_
  refine k_callV hK (as := []) (st' := []) ti_146_878 ow_146 iv_5_94 mc_146 ms_146 rfl rfl (by omega) (Nat.le_of_ble_eq_true rfl) (Nat.le_of_ble_eq_true rfl) (by omega) (by omega) (by omega) rfl ?_
  refine sp_X4_thrown (by omega) (k_aftv (nI (u_k (fc_told s l (X.2 (i + 1)) (X.2 (i + 2))))) hB.2.2.2 ?_)
  refine k_iload hK ti_146_881 rfl ?_
  refine kn_eq hK (by omega) (by omega) ti_146_883 jt_883_5 (fun c_883 => ?_) (fun c_883 => ?_)
  · refine k_iload hK ti_146_888 rfl ?_
    refine kz_ne hK (by omega) ti_146_890 jt_890_15 (fun c_890 => ?_) (fun c_890 => ?_)
    · rw [ho c_890]
      refine k_aload_n hK ti_146_893 rfl ?_
      refine k_iconst hK ti_146_894 kI_0 ?_
      refine k_laload hK ti_146_895 (by omega) ?_
      refine k_iload hK ti_146_896 rfl ?_
      refine k_i2l hK ti_146_898 ?_
      refine k_lcmp hK ti_146_899 ?_
      refine k_if_eq hK ti_146_900 jt_900_5 (fun c_900 => ?_) (fun c_900 => ?_)
      · refine k_goto hK ti_146_905 jt_905_715 ?_
        exact hn _ _ _ _ _ _ _ _ _ _ hJ2 (by omega) (by omega)
      · exact absurd lgc c_900
    · refine k_goto hK ti_146_905 jt_905_715 ?_
      exact hn _ _ _ _ _ _ _ _ _ _ hJ2 (by omega) (by omega)
  · exact absurd rfl c_883

set_option maxRecDepth 100000 in
set_option maxHeartbeats 4000000 in
theorem law_word {X : dp_X} {d : Nat} {M : dp_M} {o : Int64} {Q : dp_Q} {K : dp_K} (hK : dp_clo X (dp_run X (d + 10)) (d + 11) 146 Q K) (hX : X.1 < 2 ^ 31) {i c q : Nat} {u5 u6 u7 u8 : Option Value} (hi : i + 3 ≤ X.1) {s : GSt} {l : LSt} (hJ : JJ M s l) (hc : c + 8 ≤ 601024) (hq : q + 500 ≤ 7293034)
  (hn : ∀ (M' : dp_M) (o' : Int64) (s' : GSt) (l' : LSt) (c' q' : Nat) (u5 u6 u7 u8 : Option Value), JJ M' s' l' → c' ≤ c + 8 → q' ≤ q + 500 → K 1620 [some (.ref 1000), some (.ref 0), some (.ref 22), some (.ref 26), some (.int (nI i)), u5, u6, u7, u8] [] 65 c' q' M' o') : K 908 [some (.ref 1000), some (.ref 0), some (.ref 22), some (.ref 26), some (.int (nI i)), u5, u6, u7, u8] [] 65 c q M o := by
  obtain ⟨hC, hN, hG, hL, hV⟩ := hJ
  have hW := hG.1
  refine k_aload_n hK ti_146_908 rfl ?_
  refine k_aload_n hK ti_146_909 rfl ?_
  refine k_iload hK ti_146_910 rfl ?_
  refine k_iconst hK ti_146_912 kI_1 ?_
  refine k_iadd hK (z := (nI (i + 1))) ti_146_913 (nI_add _ _) ?_
  refine k_sald hK (i + 1) ti_146_914 rfl (by omega) hX ?_
  refine k_aload_n hK ti_146_915 rfl ?_
  refine k_iload hK ti_146_916 rfl ?_
  refine k_iconst hK ti_146_918 kI_2 ?_
  refine k_iadd hK (z := (nI (i + 2))) ti_146_919 (nI_add _ _) ?_
  refine k_sald hK (i + 2) ti_146_920 rfl (by omega) hX ?_
  refine k_aload_n hK ti_146_921 rfl ?_
  refine k_callS hK (as := [.ref 0, .int _, .int _, .ref 26]) (st' := []) ti_146_922 ow_146 iv_5_132 mc_146 ms_146 rfl rfl (by omega) (Nat.le_of_ble_eq_true rfl) (Nat.le_of_ble_eq_true rfl) (by omega) (by omega) ?_
  refine sp_L_word (by omega) (X.2 (i + 1)) (X.2 (i + 2)) hC hN hV (fun M2 o2 hA ho => ?_)
  have hk2 : u_k (fc_word s l (X.2 (i + 1)) (X.2 (i + 2))) ≤ 2 := by rcases fck_word s l (X.2 (i + 1)) (X.2 (i + 2)) with e | ⟨e, e2⟩ <;> omega
  have hG2 := RG_wC hA.1 hG
  have hL2 := RLt_wC hA.1 hL
  refine k_istore hK (L' := [some (.ref 1000), some (.ref 0), some (.ref 22), some (.ref 26), some (.int _), some (.int _), u6, u7, u8]) ti_146_925 rfl ?_
  refine k_aload_n hK ti_146_927 rfl ?_
  refine k_aload_n hK ti_146_928 rfl ?_
  refine k_iload hK ti_146_929 rfl ?_
  refine k_iconst hK ti_146_931 kI_1 ?_
  refine k_iadd hK (z := (nI (i + 1))) ti_146_932 (nI_add _ _) ?_
  refine k_sald hK (i + 1) ti_146_933 rfl (by omega) hX ?_
  refine k_aload_n hK ti_146_934 rfl ?_
  refine k_iload hK ti_146_935 rfl ?_
  refine k_iconst hK ti_146_937 kI_2 ?_
  refine k_iadd hK (z := (nI (i + 2))) ti_146_938 (nI_add _ _) ?_
  refine k_sald hK (i + 2) ti_146_939 rfl (by omega) hX ?_
  refine k_callV hK (as := [.int _, .int _]) (st' := []) ti_146_940 ow_146 iv_5_134 mc_146 ms_146 rfl rfl (by omega) (Nat.le_of_ble_eq_true rfl) (Nat.le_of_ble_eq_true rfl) (by omega) (by omega) (by omega) rfl ?_
  refine sp_X4_word (by omega) (X.2 (i + 1)) (X.2 (i + 2)) hG2 hL2 (fun M3 hB => ?_)
  have hJ2 := JJ_next hA hB (wfl_word hV hW)
  refine k_istore hK (L' := [some (.ref 1000), some (.ref 0), some (.ref 22), some (.ref 26), some (.int _), some (.int _), some (.int _), u7, u8]) ti_146_943 rfl ?_
  refine k_aload_n hK ti_146_945 rfl ?_
  refine k_callV hK (as := []) (st' := []) ti_146_946 ow_146 iv_5_94 mc_146 ms_146 rfl rfl (by omega) (Nat.le_of_ble_eq_true rfl) (Nat.le_of_ble_eq_true rfl) (by omega) (by omega) (by omega) rfl ?_
  refine sp_X4_thrown (by omega) (k_aftv (nI (u_k (fc_word s l (X.2 (i + 1)) (X.2 (i + 2))))) hB.2.2.2 ?_)
  refine k_iload hK ti_146_949 rfl ?_
  refine kn_eq hK (by omega) (by omega) ti_146_951 jt_951_5 (fun c_951 => ?_) (fun c_951 => ?_)
  · refine k_iload hK ti_146_956 rfl ?_
    refine kz_ne hK (by omega) ti_146_958 jt_958_15 (fun c_958 => ?_) (fun c_958 => ?_)
    · rw [ho c_958]
      refine k_aload_n hK ti_146_961 rfl ?_
      refine k_iconst hK ti_146_962 kI_0 ?_
      refine k_laload hK ti_146_963 (by omega) ?_
      refine k_iload hK ti_146_964 rfl ?_
      refine k_i2l hK ti_146_966 ?_
      refine k_lcmp hK ti_146_967 ?_
      refine k_if_eq hK ti_146_968 jt_968_5 (fun c_968 => ?_) (fun c_968 => ?_)
      · refine k_goto hK ti_146_973 jt_973_647 ?_
        exact hn _ _ _ _ _ _ _ _ _ _ hJ2 (by omega) (by omega)
      · exact absurd lgc c_968
    · refine k_goto hK ti_146_973 jt_973_647 ?_
      exact hn _ _ _ _ _ _ _ _ _ _ hJ2 (by omega) (by omega)
  · exact absurd rfl c_951

set_option maxRecDepth 100000 in
set_option maxHeartbeats 4000000 in
theorem law_about {X : dp_X} {d : Nat} {M : dp_M} {o : Int64} {Q : dp_Q} {K : dp_K} (hK : dp_clo X (dp_run X (d + 10)) (d + 11) 146 Q K) (hX : X.1 < 2 ^ 31) {i c q : Nat} {u5 u6 u7 u8 : Option Value} (hi : i + 3 ≤ X.1) {s : GSt} {l : LSt} (hJ : JJ M s l) (hc : c + 8 ≤ 601024) (hq : q + 500 ≤ 7293034)
  (hn : ∀ (M' : dp_M) (o' : Int64) (s' : GSt) (l' : LSt) (c' q' : Nat) (u5 u6 u7 u8 : Option Value), JJ M' s' l' → c' ≤ c + 8 → q' ≤ q + 500 → K 1620 [some (.ref 1000), some (.ref 0), some (.ref 22), some (.ref 26), some (.int (nI i)), u5, u6, u7, u8] [] 65 c' q' M' o') : K 976 [some (.ref 1000), some (.ref 0), some (.ref 22), some (.ref 26), some (.int (nI i)), u5, u6, u7, u8] [] 65 c q M o := by
  obtain ⟨hC, hN, hG, hL, hV⟩ := hJ
  have hW := hG.1
  refine k_aload_n hK ti_146_976 rfl ?_
  refine k_aload_n hK ti_146_977 rfl ?_
  refine k_iload hK ti_146_978 rfl ?_
  refine k_iconst hK ti_146_980 kI_1 ?_
  refine k_iadd hK (z := (nI (i + 1))) ti_146_981 (nI_add _ _) ?_
  refine k_sald hK (i + 1) ti_146_982 rfl (by omega) hX ?_
  refine k_aload_n hK ti_146_983 rfl ?_
  refine k_iload hK ti_146_984 rfl ?_
  refine k_iconst hK ti_146_986 kI_2 ?_
  refine k_iadd hK (z := (nI (i + 2))) ti_146_987 (nI_add _ _) ?_
  refine k_sald hK (i + 2) ti_146_988 rfl (by omega) hX ?_
  refine k_aload_n hK ti_146_989 rfl ?_
  refine k_callS hK (as := [.ref 0, .int _, .int _, .ref 26]) (st' := []) ti_146_990 ow_146 iv_5_135 mc_146 ms_146 rfl rfl (by omega) (Nat.le_of_ble_eq_true rfl) (Nat.le_of_ble_eq_true rfl) (by omega) (by omega) ?_
  refine sp_L_about (by omega) (X.2 (i + 1)) (X.2 (i + 2)) hC hN hV (fun M2 o2 hA ho => ?_)
  have hk2 : u_k (fc_about s l (X.2 (i + 1)) (X.2 (i + 2))) ≤ 2 := by rcases fck_about s l (X.2 (i + 1)) (X.2 (i + 2)) with e | ⟨e, e2⟩ <;> omega
  have hG2 := RG_wC hA.1 hG
  have hL2 := RLt_wC hA.1 hL
  refine k_istore hK (L' := [some (.ref 1000), some (.ref 0), some (.ref 22), some (.ref 26), some (.int _), some (.int _), u6, u7, u8]) ti_146_993 rfl ?_
  refine k_aload_n hK ti_146_995 rfl ?_
  refine k_aload_n hK ti_146_996 rfl ?_
  refine k_iload hK ti_146_997 rfl ?_
  refine k_iconst hK ti_146_999 kI_1 ?_
  refine k_iadd hK (z := (nI (i + 1))) ti_146_1000 (nI_add _ _) ?_
  refine k_sald hK (i + 1) ti_146_1001 rfl (by omega) hX ?_
  refine k_aload_n hK ti_146_1002 rfl ?_
  refine k_iload hK ti_146_1003 rfl ?_
  refine k_iconst hK ti_146_1005 kI_2 ?_
  refine k_iadd hK (z := (nI (i + 2))) ti_146_1006 (nI_add _ _) ?_
  refine k_sald hK (i + 2) ti_146_1007 rfl (by omega) hX ?_
  refine k_callV hK (as := [.int _, .int _]) (st' := []) ti_146_1008 ow_146 iv_5_137 mc_146 ms_146 rfl rfl (by omega) (Nat.le_of_ble_eq_true rfl) (Nat.le_of_ble_eq_true rfl) (by omega) (by omega) (by omega) rfl ?_
  refine sp_X4_about (by omega) (X.2 (i + 1)) (X.2 (i + 2)) hG2 hL2 (fun M3 hB => ?_)
  have hJ2 := JJ_next hA hB (wfl_about hV hW)
  refine k_istore hK (L' := [some (.ref 1000), some (.ref 0), some (.ref 22), some (.ref 26), some (.int _), some (.int _), some (.int _), u7, u8]) ti_146_1011 rfl ?_
  refine k_aload_n hK ti_146_1013 rfl ?_
  refine k_callV hK (as := []) (st' := []) ti_146_1014 ow_146 iv_5_94 mc_146 ms_146 rfl rfl (by omega) (Nat.le_of_ble_eq_true rfl) (Nat.le_of_ble_eq_true rfl) (by omega) (by omega) (by omega) rfl ?_
  refine sp_X4_thrown (by omega) (k_aftv (nI (u_k (fc_about s l (X.2 (i + 1)) (X.2 (i + 2))))) hB.2.2.2 ?_)
  refine k_iload hK ti_146_1017 rfl ?_
  refine kn_eq hK (by omega) (by omega) ti_146_1019 jt_1019_5 (fun c_1019 => ?_) (fun c_1019 => ?_)
  · refine k_iload hK ti_146_1024 rfl ?_
    refine kz_ne hK (by omega) ti_146_1026 jt_1026_15 (fun c_1026 => ?_) (fun c_1026 => ?_)
    · rw [ho c_1026]
      refine k_aload_n hK ti_146_1029 rfl ?_
      refine k_iconst hK ti_146_1030 kI_0 ?_
      refine k_laload hK ti_146_1031 (by omega) ?_
      refine k_iload hK ti_146_1032 rfl ?_
      refine k_i2l hK ti_146_1034 ?_
      refine k_lcmp hK ti_146_1035 ?_
      refine k_if_eq hK ti_146_1036 jt_1036_5 (fun c_1036 => ?_) (fun c_1036 => ?_)
      · refine k_goto hK ti_146_1041 jt_1041_579 ?_
        exact hn _ _ _ _ _ _ _ _ _ _ hJ2 (by omega) (by omega)
      · exact absurd lgc c_1036
    · refine k_goto hK ti_146_1041 jt_1041_579 ?_
      exact hn _ _ _ _ _ _ _ _ _ _ hJ2 (by omega) (by omega)
  · exact absurd rfl c_1019

set_option maxRecDepth 100000 in
set_option maxHeartbeats 4000000 in
theorem law_stem {X : dp_X} {d : Nat} {M : dp_M} {o : Int64} {Q : dp_Q} {K : dp_K} (hK : dp_clo X (dp_run X (d + 10)) (d + 11) 146 Q K) (hX : X.1 < 2 ^ 31) {i c q : Nat} {u5 u6 u7 u8 : Option Value} (hi : i + 3 ≤ X.1) {s : GSt} {l : LSt} (hJ : JJ M s l) (hc : c + 8 ≤ 601024) (hq : q + 500 ≤ 7293034)
  (hn : ∀ (M' : dp_M) (o' : Int64) (s' : GSt) (l' : LSt) (c' q' : Nat) (u5 u6 u7 u8 : Option Value), JJ M' s' l' → c' ≤ c + 8 → q' ≤ q + 500 → K 1620 [some (.ref 1000), some (.ref 0), some (.ref 22), some (.ref 26), some (.int (nI i)), u5, u6, u7, u8] [] 65 c' q' M' o') : K 1044 [some (.ref 1000), some (.ref 0), some (.ref 22), some (.ref 26), some (.int (nI i)), u5, u6, u7, u8] [] 65 c q M o := by
  obtain ⟨hC, hN, hG, hL, hV⟩ := hJ
  have hW := hG.1
  refine k_aload_n hK ti_146_1044 rfl ?_
  refine k_aload_n hK ti_146_1045 rfl ?_
  refine k_iload hK ti_146_1046 rfl ?_
  refine k_iconst hK ti_146_1048 kI_1 ?_
  refine k_iadd hK (z := (nI (i + 1))) ti_146_1049 (nI_add _ _) ?_
  refine k_sald hK (i + 1) ti_146_1050 rfl (by omega) hX ?_
  refine k_aload_n hK ti_146_1051 rfl ?_
  refine k_iload hK ti_146_1052 rfl ?_
  refine k_iconst hK ti_146_1054 kI_2 ?_
  refine k_iadd hK (z := (nI (i + 2))) ti_146_1055 (nI_add _ _) ?_
  refine k_sald hK (i + 2) ti_146_1056 rfl (by omega) hX ?_
  refine k_aload_n hK ti_146_1057 rfl ?_
  refine k_callS hK (as := [.ref 0, .int _, .int _, .ref 26]) (st' := []) ti_146_1058 ow_146 iv_5_138 mc_146 ms_146 rfl rfl (by omega) (Nat.le_of_ble_eq_true rfl) (Nat.le_of_ble_eq_true rfl) (by omega) (by omega) ?_
  refine sp_L_stem (by omega) (X.2 (i + 1)) (X.2 (i + 2)) hC hN hV (fun M2 o2 hA ho => ?_)
  have hk2 : u_k (fc_stem s l (X.2 (i + 1)) (X.2 (i + 2))) ≤ 2 := by rcases fck_stem s l (X.2 (i + 1)) (X.2 (i + 2)) with e | ⟨e, e2⟩ <;> omega
  have hG2 := RG_wC hA.1 hG
  have hL2 := RLt_wC hA.1 hL
  refine k_istore hK (L' := [some (.ref 1000), some (.ref 0), some (.ref 22), some (.ref 26), some (.int _), some (.int _), u6, u7, u8]) ti_146_1061 rfl ?_
  refine k_aload_n hK ti_146_1063 rfl ?_
  refine k_aload_n hK ti_146_1064 rfl ?_
  refine k_iload hK ti_146_1065 rfl ?_
  refine k_iconst hK ti_146_1067 kI_1 ?_
  refine k_iadd hK (z := (nI (i + 1))) ti_146_1068 (nI_add _ _) ?_
  refine k_sald hK (i + 1) ti_146_1069 rfl (by omega) hX ?_
  refine k_aload_n hK ti_146_1070 rfl ?_
  refine k_iload hK ti_146_1071 rfl ?_
  refine k_iconst hK ti_146_1073 kI_2 ?_
  refine k_iadd hK (z := (nI (i + 2))) ti_146_1074 (nI_add _ _) ?_
  refine k_sald hK (i + 2) ti_146_1075 rfl (by omega) hX ?_
  refine k_callV hK (as := [.int _, .int _]) (st' := []) ti_146_1076 ow_146 iv_5_140 mc_146 ms_146 rfl rfl (by omega) (Nat.le_of_ble_eq_true rfl) (Nat.le_of_ble_eq_true rfl) (by omega) (by omega) (by omega) rfl ?_
  refine sp_X4_stem (by omega) (X.2 (i + 1)) (X.2 (i + 2)) hG2 hL2 (fun M3 hB => ?_)
  have hJ2 := JJ_next hA hB (wfl_stem hV hW)
  refine k_istore hK (L' := [some (.ref 1000), some (.ref 0), some (.ref 22), some (.ref 26), some (.int _), some (.int _), some (.int _), u7, u8]) ti_146_1079 rfl ?_
  refine k_aload_n hK ti_146_1081 rfl ?_
  refine k_callV hK (as := []) (st' := []) ti_146_1082 ow_146 iv_5_94 mc_146 ms_146 rfl rfl (by omega) (Nat.le_of_ble_eq_true rfl) (Nat.le_of_ble_eq_true rfl) (by omega) (by omega) (by omega) rfl ?_
  refine sp_X4_thrown (by omega) (k_aftv (nI (u_k (fc_stem s l (X.2 (i + 1)) (X.2 (i + 2))))) hB.2.2.2 ?_)
  refine k_iload hK ti_146_1085 rfl ?_
  refine kn_eq hK (by omega) (by omega) ti_146_1087 jt_1087_5 (fun c_1087 => ?_) (fun c_1087 => ?_)
  · refine k_iload hK ti_146_1092 rfl ?_
    refine kz_ne hK (by omega) ti_146_1094 jt_1094_15 (fun c_1094 => ?_) (fun c_1094 => ?_)
    · rw [ho c_1094]
      refine k_aload_n hK ti_146_1097 rfl ?_
      refine k_iconst hK ti_146_1098 kI_0 ?_
      refine k_laload hK ti_146_1099 (by omega) ?_
      refine k_iload hK ti_146_1100 rfl ?_
      refine k_i2l hK ti_146_1102 ?_
      refine k_lcmp hK ti_146_1103 ?_
      refine k_if_eq hK ti_146_1104 jt_1104_5 (fun c_1104 => ?_) (fun c_1104 => ?_)
      · refine k_goto hK ti_146_1109 jt_1109_511 ?_
        exact hn _ _ _ _ _ _ _ _ _ _ hJ2 (by omega) (by omega)
      · exact absurd lgc c_1104
    · refine k_goto hK ti_146_1109 jt_1109_511 ?_
      exact hn _ _ _ _ _ _ _ _ _ _ hJ2 (by omega) (by omega)
  · exact absurd rfl c_1087

set_option maxRecDepth 100000 in
set_option maxHeartbeats 4000000 in
theorem law_count {X : dp_X} {d : Nat} {M : dp_M} {o : Int64} {Q : dp_Q} {K : dp_K} (hK : dp_clo X (dp_run X (d + 10)) (d + 11) 146 Q K) (hX : X.1 < 2 ^ 31) {i c q : Nat} {u5 u6 u7 u8 : Option Value} (hi : i + 3 ≤ X.1) {s : GSt} {l : LSt} (hJ : JJ M s l) (hc : c + 8 ≤ 601024) (hq : q + 500 ≤ 7293034)
  (hn : ∀ (M' : dp_M) (o' : Int64) (s' : GSt) (l' : LSt) (c' q' : Nat) (u5 u6 u7 u8 : Option Value), JJ M' s' l' → c' ≤ c + 8 → q' ≤ q + 500 → K 1620 [some (.ref 1000), some (.ref 0), some (.ref 22), some (.ref 26), some (.int (nI i)), u5, u6, u7, u8] [] 65 c' q' M' o') : K 1112 [some (.ref 1000), some (.ref 0), some (.ref 22), some (.ref 26), some (.int (nI i)), u5, u6, u7, u8] [] 65 c q M o := by
  obtain ⟨hC, hN, hG, hL, hV⟩ := hJ
  have hW := hG.1
  refine k_aload_n hK ti_146_1112 rfl ?_
  refine k_aload_n hK ti_146_1113 rfl ?_
  refine k_iload hK ti_146_1114 rfl ?_
  refine k_iconst hK ti_146_1116 kI_1 ?_
  refine k_iadd hK (z := (nI (i + 1))) ti_146_1117 (nI_add _ _) ?_
  refine k_sald hK (i + 1) ti_146_1118 rfl (by omega) hX ?_
  refine k_aload_n hK ti_146_1119 rfl ?_
  refine k_callS hK (as := [.ref 0, .int _, .ref 26]) (st' := []) ti_146_1120 ow_146 iv_5_141 mc_146 ms_146 rfl rfl (by omega) (Nat.le_of_ble_eq_true rfl) (Nat.le_of_ble_eq_true rfl) (by omega) (by omega) ?_
  refine sp_L_count (by omega) (X.2 (i + 1)) hC hN hV (fun M2 o2 hA ho => ?_)
  have hk2 : u_k (fc_count s l (X.2 (i + 1))) ≤ 2 := by rcases fck_count s l (X.2 (i + 1)) with e | ⟨e, e2⟩ <;> omega
  have hG2 := RG_wC hA.1 hG
  have hL2 := RLt_wC hA.1 hL
  refine k_istore hK (L' := [some (.ref 1000), some (.ref 0), some (.ref 22), some (.ref 26), some (.int _), some (.int _), u6, u7, u8]) ti_146_1123 rfl ?_
  refine k_aload_n hK ti_146_1125 rfl ?_
  refine k_aload_n hK ti_146_1126 rfl ?_
  refine k_iload hK ti_146_1127 rfl ?_
  refine k_iconst hK ti_146_1129 kI_1 ?_
  refine k_iadd hK (z := (nI (i + 1))) ti_146_1130 (nI_add _ _) ?_
  refine k_sald hK (i + 1) ti_146_1131 rfl (by omega) hX ?_
  refine k_callV hK (as := [.int _]) (st' := []) ti_146_1132 ow_146 iv_5_143 mc_146 ms_146 rfl rfl (by omega) (Nat.le_of_ble_eq_true rfl) (Nat.le_of_ble_eq_true rfl) (by omega) (by omega) (by omega) rfl ?_
  refine sp_X4_count (by omega) (X.2 (i + 1)) hG2 hL2 (fun M3 hB => ?_)
  have hJ2 := JJ_next hA hB (wfl_count hV hW)
  refine k_istore hK (L' := [some (.ref 1000), some (.ref 0), some (.ref 22), some (.ref 26), some (.int _), some (.int _), some (.int _), u7, u8]) ti_146_1135 rfl ?_
  refine k_aload_n hK ti_146_1137 rfl ?_
  refine k_callV hK (as := []) (st' := []) ti_146_1138 ow_146 iv_5_94 mc_146 ms_146 rfl rfl (by omega) (Nat.le_of_ble_eq_true rfl) (Nat.le_of_ble_eq_true rfl) (by omega) (by omega) (by omega) rfl ?_
  refine sp_X4_thrown (by omega) (k_aftv (nI (u_k (fc_count s l (X.2 (i + 1))))) hB.2.2.2 ?_)
  refine k_iload hK ti_146_1141 rfl ?_
  refine kn_eq hK (by omega) (by omega) ti_146_1143 jt_1143_5 (fun c_1143 => ?_) (fun c_1143 => ?_)
  · refine k_iload hK ti_146_1148 rfl ?_
    refine kz_ne hK (by omega) ti_146_1150 jt_1150_15 (fun c_1150 => ?_) (fun c_1150 => ?_)
    · rw [ho c_1150]
      refine k_aload_n hK ti_146_1153 rfl ?_
      refine k_iconst hK ti_146_1154 kI_0 ?_
      refine k_laload hK ti_146_1155 (by omega) ?_
      refine k_iload hK ti_146_1156 rfl ?_
      refine k_i2l hK ti_146_1158 ?_
      refine k_lcmp hK ti_146_1159 ?_
      refine k_if_eq hK ti_146_1160 jt_1160_5 (fun c_1160 => ?_) (fun c_1160 => ?_)
      · refine k_goto hK ti_146_1165 jt_1165_455 ?_
        exact hn _ _ _ _ _ _ _ _ _ _ hJ2 (by omega) (by omega)
      · exact absurd lgc c_1160
    · refine k_goto hK ti_146_1165 jt_1165_455 ?_
      exact hn _ _ _ _ _ _ _ _ _ _ hJ2 (by omega) (by omega)
  · exact absurd rfl c_1143

set_option maxRecDepth 100000 in
set_option maxHeartbeats 4000000 in
theorem law_rarity {X : dp_X} {d : Nat} {M : dp_M} {o : Int64} {Q : dp_Q} {K : dp_K} (hK : dp_clo X (dp_run X (d + 10)) (d + 11) 146 Q K) (hX : X.1 < 2 ^ 31) {i c q : Nat} {u5 u6 u7 u8 : Option Value} (hi : i + 3 ≤ X.1) {s : GSt} {l : LSt} (hJ : JJ M s l) (hc : c + 8 ≤ 601024) (hq : q + 500 ≤ 7293034)
  (hn : ∀ (M' : dp_M) (o' : Int64) (s' : GSt) (l' : LSt) (c' q' : Nat) (u5 u6 u7 u8 : Option Value), JJ M' s' l' → c' ≤ c + 8 → q' ≤ q + 500 → K 1620 [some (.ref 1000), some (.ref 0), some (.ref 22), some (.ref 26), some (.int (nI i)), u5, u6, u7, u8] [] 65 c' q' M' o') : K 1168 [some (.ref 1000), some (.ref 0), some (.ref 22), some (.ref 26), some (.int (nI i)), u5, u6, u7, u8] [] 65 c q M o := by
  obtain ⟨hC, hN, hG, hL, hV⟩ := hJ
  have hW := hG.1
  refine k_aload_n hK ti_146_1168 rfl ?_
  refine k_aload_n hK ti_146_1169 rfl ?_
  refine k_iload hK ti_146_1170 rfl ?_
  refine k_iconst hK ti_146_1172 kI_1 ?_
  refine k_iadd hK (z := (nI (i + 1))) ti_146_1173 (nI_add _ _) ?_
  refine k_sald hK (i + 1) ti_146_1174 rfl (by omega) hX ?_
  refine k_aload_n hK ti_146_1175 rfl ?_
  refine k_callS hK (as := [.ref 0, .int _, .ref 26]) (st' := []) ti_146_1176 ow_146 iv_5_144 mc_146 ms_146 rfl rfl (by omega) (Nat.le_of_ble_eq_true rfl) (Nat.le_of_ble_eq_true rfl) (by omega) (by omega) ?_
  refine sp_L_rarity (by omega) (X.2 (i + 1)) hC hN hV (fun M2 o2 hA ho => ?_)
  have hk2 : u_k (fc_rarity s l (X.2 (i + 1))) ≤ 2 := by rcases fck_rarity s l (X.2 (i + 1)) with e | ⟨e, e2⟩ <;> omega
  have hG2 := RG_wC hA.1 hG
  have hL2 := RLt_wC hA.1 hL
  refine k_istore hK (L' := [some (.ref 1000), some (.ref 0), some (.ref 22), some (.ref 26), some (.int _), some (.int _), u6, u7, u8]) ti_146_1179 rfl ?_
  refine k_aload_n hK ti_146_1181 rfl ?_
  refine k_aload_n hK ti_146_1182 rfl ?_
  refine k_iload hK ti_146_1183 rfl ?_
  refine k_iconst hK ti_146_1185 kI_1 ?_
  refine k_iadd hK (z := (nI (i + 1))) ti_146_1186 (nI_add _ _) ?_
  refine k_sald hK (i + 1) ti_146_1187 rfl (by omega) hX ?_
  refine k_callV hK (as := [.int _]) (st' := []) ti_146_1188 ow_146 iv_5_146 mc_146 ms_146 rfl rfl (by omega) (Nat.le_of_ble_eq_true rfl) (Nat.le_of_ble_eq_true rfl) (by omega) (by omega) (by omega) rfl ?_
  refine sp_X4_rarity (by omega) (X.2 (i + 1)) hG2 hL2 (fun M3 hB => ?_)
  have hJ2 := JJ_next hA hB (wfl_rarity hV hW)
  refine k_istore hK (L' := [some (.ref 1000), some (.ref 0), some (.ref 22), some (.ref 26), some (.int _), some (.int _), some (.int _), u7, u8]) ti_146_1191 rfl ?_
  refine k_aload_n hK ti_146_1193 rfl ?_
  refine k_callV hK (as := []) (st' := []) ti_146_1194 ow_146 iv_5_94 mc_146 ms_146 rfl rfl (by omega) (Nat.le_of_ble_eq_true rfl) (Nat.le_of_ble_eq_true rfl) (by omega) (by omega) (by omega) rfl ?_
  refine sp_X4_thrown (by omega) (k_aftv (nI (u_k (fc_rarity s l (X.2 (i + 1))))) hB.2.2.2 ?_)
  refine k_iload hK ti_146_1197 rfl ?_
  refine kn_eq hK (by omega) (by omega) ti_146_1199 jt_1199_5 (fun c_1199 => ?_) (fun c_1199 => ?_)
  · refine k_iload hK ti_146_1204 rfl ?_
    refine kz_ne hK (by omega) ti_146_1206 jt_1206_15 (fun c_1206 => ?_) (fun c_1206 => ?_)
    · rw [ho c_1206]
      refine k_aload_n hK ti_146_1209 rfl ?_
      refine k_iconst hK ti_146_1210 kI_0 ?_
      refine k_laload hK ti_146_1211 (by omega) ?_
      refine k_iload hK ti_146_1212 rfl ?_
      refine k_i2l hK ti_146_1214 ?_
      refine k_lcmp hK ti_146_1215 ?_
      refine k_if_eq hK ti_146_1216 jt_1216_5 (fun c_1216 => ?_) (fun c_1216 => ?_)
      · refine k_goto hK ti_146_1221 jt_1221_399 ?_
        exact hn _ _ _ _ _ _ _ _ _ _ hJ2 (by omega) (by omega)
      · exact absurd lgc c_1216
    · refine k_goto hK ti_146_1221 jt_1221_399 ?_
      exact hn _ _ _ _ _ _ _ _ _ _ hJ2 (by omega) (by omega)
  · exact absurd rfl c_1199

set_option maxRecDepth 100000 in
set_option maxHeartbeats 4000000 in
theorem law_score {X : dp_X} {d : Nat} {M : dp_M} {o : Int64} {Q : dp_Q} {K : dp_K} (hK : dp_clo X (dp_run X (d + 10)) (d + 11) 146 Q K) (hX : X.1 < 2 ^ 31) {i c q : Nat} {u5 u6 u7 u8 : Option Value} (hi : i + 3 ≤ X.1) {s : GSt} {l : LSt} (hJ : JJ M s l) (hc : c + 8 ≤ 601024) (hq : q + 500 ≤ 7293034)
  (hn : ∀ (M' : dp_M) (o' : Int64) (s' : GSt) (l' : LSt) (c' q' : Nat) (u5 u6 u7 u8 : Option Value), JJ M' s' l' → c' ≤ c + 8 → q' ≤ q + 500 → K 1620 [some (.ref 1000), some (.ref 0), some (.ref 22), some (.ref 26), some (.int (nI i)), u5, u6, u7, u8] [] 65 c' q' M' o') : K 1224 [some (.ref 1000), some (.ref 0), some (.ref 22), some (.ref 26), some (.int (nI i)), u5, u6, u7, u8] [] 65 c q M o := by
  obtain ⟨hC, hN, hG, hL, hV⟩ := hJ
  have hW := hG.1
  refine k_aload_n hK ti_146_1224 rfl ?_
  refine k_aload_n hK ti_146_1225 rfl ?_
  refine k_iload hK ti_146_1226 rfl ?_
  refine k_iconst hK ti_146_1228 kI_1 ?_
  refine k_iadd hK (z := (nI (i + 1))) ti_146_1229 (nI_add _ _) ?_
  refine k_sald hK (i + 1) ti_146_1230 rfl (by omega) hX ?_
  refine k_aload_n hK ti_146_1231 rfl ?_
  refine k_iload hK ti_146_1232 rfl ?_
  refine k_iconst hK ti_146_1234 kI_2 ?_
  refine k_iadd hK (z := (nI (i + 2))) ti_146_1235 (nI_add _ _) ?_
  refine k_sald hK (i + 2) ti_146_1236 rfl (by omega) hX ?_
  refine k_aload_n hK ti_146_1237 rfl ?_
  refine k_callS hK (as := [.ref 0, .int _, .int _, .ref 26]) (st' := []) ti_146_1238 ow_146 iv_5_147 mc_146 ms_146 rfl rfl (by omega) (Nat.le_of_ble_eq_true rfl) (Nat.le_of_ble_eq_true rfl) (by omega) (by omega) ?_
  refine sp_L_score (by omega) (X.2 (i + 1)) (X.2 (i + 2)) hC hN hV (fun M2 o2 hA ho => ?_)
  have hk2 : u_k (fc_score s l (X.2 (i + 1)) (X.2 (i + 2))) ≤ 2 := by rcases fck_score s l (X.2 (i + 1)) (X.2 (i + 2)) with e | ⟨e, e2⟩ <;> omega
  have hG2 := RG_wC hA.1 hG
  have hL2 := RLt_wC hA.1 hL
  refine k_istore hK (L' := [some (.ref 1000), some (.ref 0), some (.ref 22), some (.ref 26), some (.int _), some (.int _), u6, u7, u8]) ti_146_1241 rfl ?_
  refine k_aload_n hK ti_146_1243 rfl ?_
  refine k_aload_n hK ti_146_1244 rfl ?_
  refine k_iload hK ti_146_1245 rfl ?_
  refine k_iconst hK ti_146_1247 kI_1 ?_
  refine k_iadd hK (z := (nI (i + 1))) ti_146_1248 (nI_add _ _) ?_
  refine k_sald hK (i + 1) ti_146_1249 rfl (by omega) hX ?_
  refine k_aload_n hK ti_146_1250 rfl ?_
  refine k_iload hK ti_146_1251 rfl ?_
  refine k_iconst hK ti_146_1253 kI_2 ?_
  refine k_iadd hK (z := (nI (i + 2))) ti_146_1254 (nI_add _ _) ?_
  refine k_sald hK (i + 2) ti_146_1255 rfl (by omega) hX ?_
  refine k_callV hK (as := [.int _, .int _]) (st' := []) ti_146_1256 ow_146 iv_5_149 mc_146 ms_146 rfl rfl (by omega) (Nat.le_of_ble_eq_true rfl) (Nat.le_of_ble_eq_true rfl) (by omega) (by omega) (by omega) rfl ?_
  refine sp_X4_score (by omega) (X.2 (i + 1)) (X.2 (i + 2)) hG2 hL2 (fun M3 hB => ?_)
  have hJ2 := JJ_next hA hB (wfl_score hV hW)
  refine k_istore hK (L' := [some (.ref 1000), some (.ref 0), some (.ref 22), some (.ref 26), some (.int _), some (.int _), some (.int _), u7, u8]) ti_146_1259 rfl ?_
  refine k_aload_n hK ti_146_1261 rfl ?_
  refine k_callV hK (as := []) (st' := []) ti_146_1262 ow_146 iv_5_94 mc_146 ms_146 rfl rfl (by omega) (Nat.le_of_ble_eq_true rfl) (Nat.le_of_ble_eq_true rfl) (by omega) (by omega) (by omega) rfl ?_
  refine sp_X4_thrown (by omega) (k_aftv (nI (u_k (fc_score s l (X.2 (i + 1)) (X.2 (i + 2))))) hB.2.2.2 ?_)
  refine k_iload hK ti_146_1265 rfl ?_
  refine kn_eq hK (by omega) (by omega) ti_146_1267 jt_1267_5 (fun c_1267 => ?_) (fun c_1267 => ?_)
  · refine k_iload hK ti_146_1272 rfl ?_
    refine kz_ne hK (by omega) ti_146_1274 jt_1274_15 (fun c_1274 => ?_) (fun c_1274 => ?_)
    · rw [ho c_1274]
      refine k_aload_n hK ti_146_1277 rfl ?_
      refine k_iconst hK ti_146_1278 kI_0 ?_
      refine k_laload hK ti_146_1279 (by omega) ?_
      refine k_iload hK ti_146_1280 rfl ?_
      refine k_i2l hK ti_146_1282 ?_
      refine k_lcmp hK ti_146_1283 ?_
      refine k_if_eq hK ti_146_1284 jt_1284_5 (fun c_1284 => ?_) (fun c_1284 => ?_)
      · refine k_goto hK ti_146_1289 jt_1289_331 ?_
        exact hn _ _ _ _ _ _ _ _ _ _ hJ2 (by omega) (by omega)
      · exact absurd lgc c_1284
    · refine k_goto hK ti_146_1289 jt_1289_331 ?_
      exact hn _ _ _ _ _ _ _ _ _ _ hJ2 (by omega) (by omega)
  · exact absurd rfl c_1267

set_option maxRecDepth 100000 in
set_option maxHeartbeats 4000000 in
theorem law_fit {X : dp_X} {d : Nat} {M : dp_M} {o : Int64} {Q : dp_Q} {K : dp_K} (hK : dp_clo X (dp_run X (d + 10)) (d + 11) 146 Q K) (hX : X.1 < 2 ^ 31) {i c q : Nat} {u5 u6 u7 u8 : Option Value} (hi : i + 3 ≤ X.1) {s : GSt} {l : LSt} (hJ : JJ M s l) (hc : c + 8 ≤ 601024) (hq : q + 500 ≤ 7293034)
  (hn : ∀ (M' : dp_M) (o' : Int64) (s' : GSt) (l' : LSt) (c' q' : Nat) (u5 u6 u7 u8 : Option Value), JJ M' s' l' → c' ≤ c + 8 → q' ≤ q + 500 → K 1620 [some (.ref 1000), some (.ref 0), some (.ref 22), some (.ref 26), some (.int (nI i)), u5, u6, u7, u8] [] 65 c' q' M' o') : K 1292 [some (.ref 1000), some (.ref 0), some (.ref 22), some (.ref 26), some (.int (nI i)), u5, u6, u7, u8] [] 65 c q M o := by
  obtain ⟨hC, hN, hG, hL, hV⟩ := hJ
  have hW := hG.1
  refine k_aload_n hK ti_146_1292 rfl ?_
  refine k_aload_n hK ti_146_1293 rfl ?_
  refine k_iload hK ti_146_1294 rfl ?_
  refine k_iconst hK ti_146_1296 kI_1 ?_
  refine k_iadd hK (z := (nI (i + 1))) ti_146_1297 (nI_add _ _) ?_
  refine k_sald hK (i + 1) ti_146_1298 rfl (by omega) hX ?_
  refine k_aload_n hK ti_146_1299 rfl ?_
  refine k_iload hK ti_146_1300 rfl ?_
  refine k_iconst hK ti_146_1302 kI_2 ?_
  refine k_iadd hK (z := (nI (i + 2))) ti_146_1303 (nI_add _ _) ?_
  refine k_sald hK (i + 2) ti_146_1304 rfl (by omega) hX ?_
  refine k_aload_n hK ti_146_1305 rfl ?_
  refine k_callS hK (as := [.ref 0, .int _, .int _, .ref 26]) (st' := []) ti_146_1306 ow_146 iv_5_150 mc_146 ms_146 rfl rfl (by omega) (Nat.le_of_ble_eq_true rfl) (Nat.le_of_ble_eq_true rfl) (by omega) (by omega) ?_
  refine sp_L_fit (by omega) (X.2 (i + 1)) (X.2 (i + 2)) hC hN hV (fun M2 o2 hA ho => ?_)
  have hk2 : u_k (fc_fit s l (X.2 (i + 1)) (X.2 (i + 2))) ≤ 2 := by rcases fck_fit s l (X.2 (i + 1)) (X.2 (i + 2)) with e | ⟨e, e2⟩ <;> omega
  have hG2 := RG_wC hA.1 hG
  have hL2 := RLt_wC hA.1 hL
  refine k_istore hK (L' := [some (.ref 1000), some (.ref 0), some (.ref 22), some (.ref 26), some (.int _), some (.int _), u6, u7, u8]) ti_146_1309 rfl ?_
  refine k_aload_n hK ti_146_1311 rfl ?_
  refine k_aload_n hK ti_146_1312 rfl ?_
  refine k_iload hK ti_146_1313 rfl ?_
  refine k_iconst hK ti_146_1315 kI_1 ?_
  refine k_iadd hK (z := (nI (i + 1))) ti_146_1316 (nI_add _ _) ?_
  refine k_sald hK (i + 1) ti_146_1317 rfl (by omega) hX ?_
  refine k_aload_n hK ti_146_1318 rfl ?_
  refine k_iload hK ti_146_1319 rfl ?_
  refine k_iconst hK ti_146_1321 kI_2 ?_
  refine k_iadd hK (z := (nI (i + 2))) ti_146_1322 (nI_add _ _) ?_
  refine k_sald hK (i + 2) ti_146_1323 rfl (by omega) hX ?_
  refine k_callV hK (as := [.int _, .int _]) (st' := []) ti_146_1324 ow_146 iv_5_152 mc_146 ms_146 rfl rfl (by omega) (Nat.le_of_ble_eq_true rfl) (Nat.le_of_ble_eq_true rfl) (by omega) (by omega) (by omega) rfl ?_
  refine sp_X4_fit (by omega) (X.2 (i + 1)) (X.2 (i + 2)) hG2 hL2 (fun M3 hB => ?_)
  have hJ2 := JJ_next hA hB (wfl_fit hV hW)
  refine k_istore hK (L' := [some (.ref 1000), some (.ref 0), some (.ref 22), some (.ref 26), some (.int _), some (.int _), some (.int _), u7, u8]) ti_146_1327 rfl ?_
  refine k_aload_n hK ti_146_1329 rfl ?_
  refine k_callV hK (as := []) (st' := []) ti_146_1330 ow_146 iv_5_94 mc_146 ms_146 rfl rfl (by omega) (Nat.le_of_ble_eq_true rfl) (Nat.le_of_ble_eq_true rfl) (by omega) (by omega) (by omega) rfl ?_
  refine sp_X4_thrown (by omega) (k_aftv (nI (u_k (fc_fit s l (X.2 (i + 1)) (X.2 (i + 2))))) hB.2.2.2 ?_)
  refine k_iload hK ti_146_1333 rfl ?_
  refine kn_eq hK (by omega) (by omega) ti_146_1335 jt_1335_5 (fun c_1335 => ?_) (fun c_1335 => ?_)
  · refine k_iload hK ti_146_1340 rfl ?_
    refine kz_ne hK (by omega) ti_146_1342 jt_1342_15 (fun c_1342 => ?_) (fun c_1342 => ?_)
    · rw [ho c_1342]
      refine k_aload_n hK ti_146_1345 rfl ?_
      refine k_iconst hK ti_146_1346 kI_0 ?_
      refine k_laload hK ti_146_1347 (by omega) ?_
      refine k_iload hK ti_146_1348 rfl ?_
      refine k_i2l hK ti_146_1350 ?_
      refine k_lcmp hK ti_146_1351 ?_
      refine k_if_eq hK ti_146_1352 jt_1352_5 (fun c_1352 => ?_) (fun c_1352 => ?_)
      · refine k_goto hK ti_146_1357 jt_1357_263 ?_
        exact hn _ _ _ _ _ _ _ _ _ _ hJ2 (by omega) (by omega)
      · exact absurd lgc c_1352
    · refine k_goto hK ti_146_1357 jt_1357_263 ?_
      exact hn _ _ _ _ _ _ _ _ _ _ hJ2 (by omega) (by omega)
  · exact absurd rfl c_1335

set_option maxRecDepth 100000 in
set_option maxHeartbeats 4000000 in
theorem law_alike {X : dp_X} {d : Nat} {M : dp_M} {o : Int64} {Q : dp_Q} {K : dp_K} (hK : dp_clo X (dp_run X (d + 10)) (d + 11) 146 Q K) (hX : X.1 < 2 ^ 31) {i c q : Nat} {u5 u6 u7 u8 : Option Value} (hi : i + 3 ≤ X.1) {s : GSt} {l : LSt} (hJ : JJ M s l) (hc : c + 8 ≤ 601024) (hq : q + 500 ≤ 7293034)
  (hn : ∀ (M' : dp_M) (o' : Int64) (s' : GSt) (l' : LSt) (c' q' : Nat) (u5 u6 u7 u8 : Option Value), JJ M' s' l' → c' ≤ c + 8 → q' ≤ q + 500 → K 1620 [some (.ref 1000), some (.ref 0), some (.ref 22), some (.ref 26), some (.int (nI i)), u5, u6, u7, u8] [] 65 c' q' M' o') : K 1360 [some (.ref 1000), some (.ref 0), some (.ref 22), some (.ref 26), some (.int (nI i)), u5, u6, u7, u8] [] 65 c q M o := by
  obtain ⟨hC, hN, hG, hL, hV⟩ := hJ
  have hW := hG.1
  refine k_aload_n hK ti_146_1360 rfl ?_
  refine k_aload_n hK ti_146_1361 rfl ?_
  refine k_iload hK ti_146_1362 rfl ?_
  refine k_iconst hK ti_146_1364 kI_1 ?_
  refine k_iadd hK (z := (nI (i + 1))) ti_146_1365 (nI_add _ _) ?_
  refine k_sald hK (i + 1) ti_146_1366 rfl (by omega) hX ?_
  refine k_aload_n hK ti_146_1367 rfl ?_
  refine k_iload hK ti_146_1368 rfl ?_
  refine k_iconst hK ti_146_1370 kI_2 ?_
  refine k_iadd hK (z := (nI (i + 2))) ti_146_1371 (nI_add _ _) ?_
  refine k_sald hK (i + 2) ti_146_1372 rfl (by omega) hX ?_
  refine k_aload_n hK ti_146_1373 rfl ?_
  refine k_callS hK (as := [.ref 0, .int _, .int _, .ref 26]) (st' := []) ti_146_1374 ow_146 iv_5_153 mc_146 ms_146 rfl rfl (by omega) (Nat.le_of_ble_eq_true rfl) (Nat.le_of_ble_eq_true rfl) (by omega) (by omega) ?_
  refine sp_L_alike (by omega) (X.2 (i + 1)) (X.2 (i + 2)) hC hN hV (fun M2 o2 hA ho => ?_)
  have hk2 : u_k (fc_alike s l (X.2 (i + 1)) (X.2 (i + 2))) ≤ 2 := by rcases fck_alike s l (X.2 (i + 1)) (X.2 (i + 2)) with e | ⟨e, e2⟩ <;> omega
  have hG2 := RG_wC hA.1 hG
  have hL2 := RLt_wC hA.1 hL
  refine k_istore hK (L' := [some (.ref 1000), some (.ref 0), some (.ref 22), some (.ref 26), some (.int _), some (.int _), u6, u7, u8]) ti_146_1377 rfl ?_
  refine k_aload_n hK ti_146_1379 rfl ?_
  refine k_aload_n hK ti_146_1380 rfl ?_
  refine k_iload hK ti_146_1381 rfl ?_
  refine k_iconst hK ti_146_1383 kI_1 ?_
  refine k_iadd hK (z := (nI (i + 1))) ti_146_1384 (nI_add _ _) ?_
  refine k_sald hK (i + 1) ti_146_1385 rfl (by omega) hX ?_
  refine k_aload_n hK ti_146_1386 rfl ?_
  refine k_iload hK ti_146_1387 rfl ?_
  refine k_iconst hK ti_146_1389 kI_2 ?_
  refine k_iadd hK (z := (nI (i + 2))) ti_146_1390 (nI_add _ _) ?_
  refine k_sald hK (i + 2) ti_146_1391 rfl (by omega) hX ?_
  refine k_callV hK (as := [.int _, .int _]) (st' := []) ti_146_1392 ow_146 iv_5_155 mc_146 ms_146 rfl rfl (by omega) (Nat.le_of_ble_eq_true rfl) (Nat.le_of_ble_eq_true rfl) (by omega) (by omega) (by omega) rfl ?_
  refine sp_X4_alike (by omega) (X.2 (i + 1)) (X.2 (i + 2)) hG2 hL2 (fun M3 hB => ?_)
  have hJ2 := JJ_next hA hB (wfl_alike hV hW)
  refine k_istore hK (L' := [some (.ref 1000), some (.ref 0), some (.ref 22), some (.ref 26), some (.int _), some (.int _), some (.int _), u7, u8]) ti_146_1395 rfl ?_
  refine k_aload_n hK ti_146_1397 rfl ?_
  refine k_callV hK (as := []) (st' := []) ti_146_1398 ow_146 iv_5_94 mc_146 ms_146 rfl rfl (by omega) (Nat.le_of_ble_eq_true rfl) (Nat.le_of_ble_eq_true rfl) (by omega) (by omega) (by omega) rfl ?_
  refine sp_X4_thrown (by omega) (k_aftv (nI (u_k (fc_alike s l (X.2 (i + 1)) (X.2 (i + 2))))) hB.2.2.2 ?_)
  refine k_iload hK ti_146_1401 rfl ?_
  refine kn_eq hK (by omega) (by omega) ti_146_1403 jt_1403_5 (fun c_1403 => ?_) (fun c_1403 => ?_)
  · refine k_iload hK ti_146_1408 rfl ?_
    refine kz_ne hK (by omega) ti_146_1410 jt_1410_15 (fun c_1410 => ?_) (fun c_1410 => ?_)
    · rw [ho c_1410]
      refine k_aload_n hK ti_146_1413 rfl ?_
      refine k_iconst hK ti_146_1414 kI_0 ?_
      refine k_laload hK ti_146_1415 (by omega) ?_
      refine k_iload hK ti_146_1416 rfl ?_
      refine k_i2l hK ti_146_1418 ?_
      refine k_lcmp hK ti_146_1419 ?_
      refine k_if_eq hK ti_146_1420 jt_1420_5 (fun c_1420 => ?_) (fun c_1420 => ?_)
      · refine k_goto hK ti_146_1425 jt_1425_195 ?_
        exact hn _ _ _ _ _ _ _ _ _ _ hJ2 (by omega) (by omega)
      · exact absurd lgc c_1420
    · refine k_goto hK ti_146_1425 jt_1425_195 ?_
      exact hn _ _ _ _ _ _ _ _ _ _ hJ2 (by omega) (by omega)
  · exact absurd rfl c_1403

set_option maxRecDepth 100000 in
set_option maxHeartbeats 4000000 in
theorem law_advise {X : dp_X} {d : Nat} {M : dp_M} {o : Int64} {Q : dp_Q} {K : dp_K} (hK : dp_clo X (dp_run X (d + 10)) (d + 11) 146 Q K) (hX : X.1 < 2 ^ 31) {i c q : Nat} {u5 u6 u7 u8 : Option Value} (hi : i + 3 ≤ X.1) {s : GSt} {l : LSt} (hJ : JJ M s l) (hc : c + 8 ≤ 601024) (hq : q + 500 ≤ 7293034)
  (hn : ∀ (M' : dp_M) (o' : Int64) (s' : GSt) (l' : LSt) (c' q' : Nat) (u5 u6 u7 u8 : Option Value), JJ M' s' l' → c' ≤ c + 8 → q' ≤ q + 500 → K 1620 [some (.ref 1000), some (.ref 0), some (.ref 22), some (.ref 26), some (.int (nI i)), u5, u6, u7, u8] [] 65 c' q' M' o') : K 1428 [some (.ref 1000), some (.ref 0), some (.ref 22), some (.ref 26), some (.int (nI i)), u5, u6, u7, u8] [] 65 c q M o := by
  obtain ⟨hC, hN, hG, hL, hV⟩ := hJ
  have hW := hG.1
  refine k_aload_n hK ti_146_1428 rfl ?_
  refine k_aload_n hK ti_146_1429 rfl ?_
  refine k_iload hK ti_146_1430 rfl ?_
  refine k_iconst hK ti_146_1432 kI_1 ?_
  refine k_iadd hK (z := (nI (i + 1))) ti_146_1433 (nI_add _ _) ?_
  refine k_sald hK (i + 1) ti_146_1434 rfl (by omega) hX ?_
  refine k_aload_n hK ti_146_1435 rfl ?_
  refine k_callS hK (as := [.ref 0, .int _, .ref 26]) (st' := []) ti_146_1436 ow_146 iv_5_156 mc_146 ms_146 rfl rfl (by omega) (Nat.le_of_ble_eq_true rfl) (Nat.le_of_ble_eq_true rfl) (by omega) (by omega) ?_
  refine sp_L_advise (by omega) (X.2 (i + 1)) hC hN hV (fun M2 o2 hA ho => ?_)
  have hk2 : u_k (fc_advise s l (X.2 (i + 1))) ≤ 2 := by rcases fck_advise s l (X.2 (i + 1)) with e | ⟨e, e2⟩ <;> omega
  have hG2 := RG_wC hA.1 hG
  have hL2 := RLt_wC hA.1 hL
  refine k_istore hK (L' := [some (.ref 1000), some (.ref 0), some (.ref 22), some (.ref 26), some (.int _), some (.int _), u6, u7, u8]) ti_146_1439 rfl ?_
  refine k_aload_n hK ti_146_1441 rfl ?_
  refine k_aload_n hK ti_146_1442 rfl ?_
  refine k_iload hK ti_146_1443 rfl ?_
  refine k_iconst hK ti_146_1445 kI_1 ?_
  refine k_iadd hK (z := (nI (i + 1))) ti_146_1446 (nI_add _ _) ?_
  refine k_sald hK (i + 1) ti_146_1447 rfl (by omega) hX ?_
  refine k_callV hK (as := [.int _]) (st' := []) ti_146_1448 ow_146 iv_5_158 mc_146 ms_146 rfl rfl (by omega) (Nat.le_of_ble_eq_true rfl) (Nat.le_of_ble_eq_true rfl) (by omega) (by omega) (by omega) rfl ?_
  refine sp_X4_advise (by omega) (X.2 (i + 1)) hG2 hL2 (fun M3 hB => ?_)
  have hJ2 := JJ_next hA hB (wfl_advise hV hW)
  refine k_istore hK (L' := [some (.ref 1000), some (.ref 0), some (.ref 22), some (.ref 26), some (.int _), some (.int _), some (.int _), u7, u8]) ti_146_1451 rfl ?_
  refine k_aload_n hK ti_146_1453 rfl ?_
  refine k_callV hK (as := []) (st' := []) ti_146_1454 ow_146 iv_5_94 mc_146 ms_146 rfl rfl (by omega) (Nat.le_of_ble_eq_true rfl) (Nat.le_of_ble_eq_true rfl) (by omega) (by omega) (by omega) rfl ?_
  refine sp_X4_thrown (by omega) (k_aftv (nI (u_k (fc_advise s l (X.2 (i + 1))))) hB.2.2.2 ?_)
  refine k_iload hK ti_146_1457 rfl ?_
  refine kn_eq hK (by omega) (by omega) ti_146_1459 jt_1459_5 (fun c_1459 => ?_) (fun c_1459 => ?_)
  · refine k_iload hK ti_146_1464 rfl ?_
    refine kz_ne hK (by omega) ti_146_1466 jt_1466_15 (fun c_1466 => ?_) (fun c_1466 => ?_)
    · rw [ho c_1466]
      refine k_aload_n hK ti_146_1469 rfl ?_
      refine k_iconst hK ti_146_1470 kI_0 ?_
      refine k_laload hK ti_146_1471 (by omega) ?_
      refine k_iload hK ti_146_1472 rfl ?_
      refine k_i2l hK ti_146_1474 ?_
      refine k_lcmp hK ti_146_1475 ?_
      refine k_if_eq hK ti_146_1476 jt_1476_5 (fun c_1476 => ?_) (fun c_1476 => ?_)
      · refine k_goto hK ti_146_1481 jt_1481_139 ?_
        exact hn _ _ _ _ _ _ _ _ _ _ hJ2 (by omega) (by omega)
      · exact absurd lgc c_1476
    · refine k_goto hK ti_146_1481 jt_1481_139 ?_
      exact hn _ _ _ _ _ _ _ _ _ _ hJ2 (by omega) (by omega)
  · exact absurd rfl c_1459

set_option maxRecDepth 100000 in
set_option maxHeartbeats 4000000 in
theorem law_foresee {X : dp_X} {d : Nat} {M : dp_M} {o : Int64} {Q : dp_Q} {K : dp_K} (hK : dp_clo X (dp_run X (d + 10)) (d + 11) 146 Q K) (hX : X.1 < 2 ^ 31) {i c q : Nat} {u5 u6 u7 u8 : Option Value} (hi : i + 3 ≤ X.1) {s : GSt} {l : LSt} (hJ : JJ M s l) (hc : c + 8 ≤ 601024) (hq : q + 500 ≤ 7293034)
  (hn : ∀ (M' : dp_M) (o' : Int64) (s' : GSt) (l' : LSt) (c' q' : Nat) (u5 u6 u7 u8 : Option Value), JJ M' s' l' → c' ≤ c + 8 → q' ≤ q + 500 → K 1620 [some (.ref 1000), some (.ref 0), some (.ref 22), some (.ref 26), some (.int (nI i)), u5, u6, u7, u8] [] 65 c' q' M' o') : K 1484 [some (.ref 1000), some (.ref 0), some (.ref 22), some (.ref 26), some (.int (nI i)), u5, u6, u7, u8] [] 65 c q M o := by
  obtain ⟨hC, hN, hG, hL, hV⟩ := hJ
  have hW := hG.1
  refine k_aload_n hK ti_146_1484 rfl ?_
  refine k_aload_n hK ti_146_1485 rfl ?_
  refine k_iload hK ti_146_1486 rfl ?_
  refine k_iconst hK ti_146_1488 kI_1 ?_
  refine k_iadd hK (z := (nI (i + 1))) ti_146_1489 (nI_add _ _) ?_
  refine k_sald hK (i + 1) ti_146_1490 rfl (by omega) hX ?_
  refine k_aload_n hK ti_146_1491 rfl ?_
  refine k_iload hK ti_146_1492 rfl ?_
  refine k_iconst hK ti_146_1494 kI_2 ?_
  refine k_iadd hK (z := (nI (i + 2))) ti_146_1495 (nI_add _ _) ?_
  refine k_sald hK (i + 2) ti_146_1496 rfl (by omega) hX ?_
  refine k_aload_n hK ti_146_1497 rfl ?_
  refine k_callS hK (as := [.ref 0, .int _, .int _, .ref 26]) (st' := []) ti_146_1498 ow_146 iv_5_159 mc_146 ms_146 rfl rfl (by omega) (Nat.le_of_ble_eq_true rfl) (Nat.le_of_ble_eq_true rfl) (by omega) (by omega) ?_
  refine sp_L_foresee (by omega) (X.2 (i + 1)) (X.2 (i + 2)) hC hN hV (fun M2 o2 hA ho => ?_)
  have hk2 : u_k (fc_foresee s l (X.2 (i + 1)) (X.2 (i + 2))) ≤ 2 := by rcases fck_foresee s l (X.2 (i + 1)) (X.2 (i + 2)) with e | ⟨e, e2⟩ | ⟨e, e2⟩ <;> omega
  have hG2 := RG_wC hA.1 hG
  have hL2 := RLt_wC hA.1 hL
  refine k_istore hK (L' := [some (.ref 1000), some (.ref 0), some (.ref 22), some (.ref 26), some (.int _), some (.int _), u6, u7, u8]) ti_146_1501 rfl ?_
  refine k_aload_n hK ti_146_1503 rfl ?_
  refine k_aload_n hK ti_146_1504 rfl ?_
  refine k_iload hK ti_146_1505 rfl ?_
  refine k_iconst hK ti_146_1507 kI_1 ?_
  refine k_iadd hK (z := (nI (i + 1))) ti_146_1508 (nI_add _ _) ?_
  refine k_sald hK (i + 1) ti_146_1509 rfl (by omega) hX ?_
  refine k_aload_n hK ti_146_1510 rfl ?_
  refine k_iload hK ti_146_1511 rfl ?_
  refine k_iconst hK ti_146_1513 kI_2 ?_
  refine k_iadd hK (z := (nI (i + 2))) ti_146_1514 (nI_add _ _) ?_
  refine k_sald hK (i + 2) ti_146_1515 rfl (by omega) hX ?_
  refine k_callV hK (as := [.int _, .int _]) (st' := []) ti_146_1516 ow_146 iv_5_161 mc_146 ms_146 rfl rfl (by omega) (Nat.le_of_ble_eq_true rfl) (Nat.le_of_ble_eq_true rfl) (by omega) (by omega) (by omega) rfl ?_
  refine sp_X4_foresee (by omega) (X.2 (i + 1)) (X.2 (i + 2)) rfl hG2 hL2 (fun M3 hB => ?_)
  have hJ2 := JJ_next hA hB (wfl_foresee hV hW)
  refine k_istore hK (L' := [some (.ref 1000), some (.ref 0), some (.ref 22), some (.ref 26), some (.int _), some (.int _), some (.int _), u7, u8]) ti_146_1519 rfl ?_
  refine k_aload_n hK ti_146_1521 rfl ?_
  refine k_callV hK (as := []) (st' := []) ti_146_1522 ow_146 iv_5_94 mc_146 ms_146 rfl rfl (by omega) (Nat.le_of_ble_eq_true rfl) (Nat.le_of_ble_eq_true rfl) (by omega) (by omega) (by omega) rfl ?_
  refine sp_X4_thrown (by omega) (k_aftv (nI (u_k (fc_foresee s l (X.2 (i + 1)) (X.2 (i + 2))))) hB.2.2.2 ?_)
  refine k_iload hK ti_146_1525 rfl ?_
  refine kn_eq hK (by omega) (by omega) ti_146_1527 jt_1527_5 (fun c_1527 => ?_) (fun c_1527 => ?_)
  · refine k_iload hK ti_146_1532 rfl ?_
    refine kz_ne hK (by omega) ti_146_1534 jt_1534_15 (fun c_1534 => ?_) (fun c_1534 => ?_)
    · rw [ho c_1534]
      refine k_aload_n hK ti_146_1537 rfl ?_
      refine k_iconst hK ti_146_1538 kI_0 ?_
      refine k_laload hK ti_146_1539 (by omega) ?_
      refine k_iload hK ti_146_1540 rfl ?_
      refine k_i2l hK ti_146_1542 ?_
      refine k_lcmp hK ti_146_1543 ?_
      refine k_if_eq hK ti_146_1544 jt_1544_5 (fun c_1544 => ?_) (fun c_1544 => ?_)
      · refine k_goto hK ti_146_1549 jt_1549_71 ?_
        exact hn _ _ _ _ _ _ _ _ _ _ hJ2 (by omega) (by omega)
      · exact absurd lgc c_1544
    · refine k_goto hK ti_146_1549 jt_1549_71 ?_
      exact hn _ _ _ _ _ _ _ _ _ _ hJ2 (by omega) (by omega)
  · exact absurd rfl c_1527
