theorem sb_497 {M M' : Mem} {t p mn : Int} (h : SUBd M t p mn M') : M' 497 0 = M 497 0 := h.1.2.2.2.2.2.2 497 0 (by unfold SBf; omega)
theorem tsp_497 {M M' : Mem} {p t a z : Int} {b : BSt} (h : TSP M p t a b z M') : M' 497 0 = M 497 0 := by
  obtain ⟨M1, M2, h1, h2, -, -, -, -, -, h3⟩ := h
  exact (h3.1 497 0 (fun w => by have := w.1; omega) (by omega) (by omega)).trans ((h2.1 497 0 (by omega) (by omega)).trans ((h1.2.2.2.2 497 0 (by unfold LYf; omega)).trans (up_o (by omega))))
theorem swL_122 : SWL 122 yL_step cL_step 6 [(0, 12, 15, 13), (0, 12, 19, 15)] 5 := ⟨inr7 _ (List.mem_of_getElem? (i := 20) rfl), inr7 _ (List.mem_of_getElem? (i := 21) rfl), rfl, inr7 _ (List.mem_of_getElem? (i := 23) rfl), by decide +kernel⟩
theorem swL_131 : SWL 131 yL_number cL_number 5 [(0, 10, 13, 13), (0, 10, 17, 15)] 4 := ⟨inr9 _ (List.mem_of_getElem? (i := 23) rfl), inr10 _ (List.mem_of_getElem? (i := 0) rfl), rfl, inr10 _ (List.mem_of_getElem? (i := 1) rfl), by decide +kernel⟩
theorem swL_140 : SWL 140 yL_problem cL_problem 5 [(0, 10, 13, 13), (0, 10, 17, 15)] 4 := ⟨inr11 _ (List.mem_of_getElem? (i := 13) rfl), inr11 _ (List.mem_of_getElem? (i := 14) rfl), rfl, inr11 _ (List.mem_of_getElem? (i := 15) rfl), by decide +kernel⟩
theorem swL_144 : SWL 144 yL_test cL_test 4 [(0, 9, 12, 29), (0, 9, 15, 15)] 3 := ⟨inr12 _ (List.mem_of_getElem? (i := 6) rfl), inr12 _ (List.mem_of_getElem? (i := 7) rfl), rfl, inr12 _ (List.mem_of_getElem? (i := 8) rfl), by decide +kernel⟩
theorem swL_148 : SWL 148 yL_fix cL_fix 5 [(0, 10, 13, 29)] 4 := ⟨inr22 _ (List.mem_of_getElem? (i := 9) rfl), inr22 _ (List.mem_of_getElem? (i := 10) rfl), rfl, inr22 _ (List.mem_of_getElem? (i := 11) rfl), by decide +kernel⟩
theorem swL_151 : SWL 151 yL_tests cL_tests 4 [(0, 9, 12, 29)] 3 := ⟨inr23 _ (List.mem_of_getElem? (i := 0) rfl), inr23 _ (List.mem_of_getElem? (i := 1) rfl), rfl, inr23 _ (List.mem_of_getElem? (i := 2) rfl), by decide +kernel⟩
theorem swL_154 : SWL 154 yL_team cL_team 3 [(0, 8, 11, 15)] 2 := ⟨inr23 _ (List.mem_of_getElem? (i := 11) rfl), inr23 _ (List.mem_of_getElem? (i := 12) rfl), rfl, inr23 _ (List.mem_of_getElem? (i := 13) rfl), by decide +kernel⟩
theorem swL_158 : SWL 158 yL_submit cL_submit 6 [(0, 12, 15, 29), (0, 12, 19, 13), (0, 12, 23, 15)] 5 := ⟨inr23 _ (List.mem_of_getElem? (i := 22) rfl), inr23 _ (List.mem_of_getElem? (i := 23) rfl), rfl, inr24 _ (List.mem_of_getElem? (i := 0) rfl), by decide +kernel⟩
theorem swL_162 : SWL 162 yL_verdict cL_verdict 4 [(0, 9, 12, 29)] 3 := ⟨inr25 _ (List.mem_of_getElem? (i := 13) rfl), inr25 _ (List.mem_of_getElem? (i := 14) rfl), rfl, inr25 _ (List.mem_of_getElem? (i := 15) rfl), by decide +kernel⟩
theorem swL_165 : SWL 165 yL_failed cL_failed 4 [(0, 9, 12, 29)] 3 := ⟨inr26 _ (List.mem_of_getElem? (i := 8) rfl), inr26 _ (List.mem_of_getElem? (i := 9) rfl), rfl, inr26 _ (List.mem_of_getElem? (i := 10) rfl), by decide +kernel⟩
theorem swL_168 : SWL 168 yL_ended cL_ended 5 [(0, 10, 13, 29)] 4 := ⟨inr26 _ (List.mem_of_getElem? (i := 20) rfl), inr26 _ (List.mem_of_getElem? (i := 21) rfl), rfl, inr26 _ (List.mem_of_getElem? (i := 22) rfl), by decide +kernel⟩
theorem swL_171 : SWL 171 yL_steps cL_steps 5 [(0, 10, 13, 29)] 4 := ⟨inr27 _ (List.mem_of_getElem? (i := 15) rfl), inr27 _ (List.mem_of_getElem? (i := 16) rfl), rfl, inr27 _ (List.mem_of_getElem? (i := 17) rfl), by decide +kernel⟩
theorem swL_174 : SWL 174 yL_outputs cL_outputs 5 [(0, 10, 13, 29)] 4 := ⟨inr28 _ (List.mem_of_getElem? (i := 2) rfl), inr28 _ (List.mem_of_getElem? (i := 3) rfl), rfl, inr28 _ (List.mem_of_getElem? (i := 4) rfl), by decide +kernel⟩
theorem swL_177 : SWL 177 yL_output cL_output 6 [(0, 12, 15, 29), (0, 12, 19, 65)] 5 := ⟨inr28 _ (List.mem_of_getElem? (i := 14) rfl), inr28 _ (List.mem_of_getElem? (i := 15) rfl), rfl, inr28 _ (List.mem_of_getElem? (i := 16) rfl), by decide +kernel⟩
theorem swL_184 : SWL 184 yL_sharing cL_sharing 5 [(0, 10, 13, 29)] 4 := ⟨inr29 _ (List.mem_of_getElem? (i := 22) rfl), inr29 _ (List.mem_of_getElem? (i := 23) rfl), rfl, inr30 _ (List.mem_of_getElem? (i := 0) rfl), by decide +kernel⟩
theorem swL_187 : SWL 187 yL_stock cL_stock 5 [(0, 10, 13, 13)] 4 := ⟨inr30 _ (List.mem_of_getElem? (i := 13) rfl), inr30 _ (List.mem_of_getElem? (i := 14) rfl), rfl, inr30 _ (List.mem_of_getElem? (i := 15) rfl), by decide +kernel⟩
theorem swL_190 : SWL 190 yL_inStock cL_inStock 4 [(0, 9, 12, 13)] 3 := ⟨inr31 _ (List.mem_of_getElem? (i := 5) rfl), inr31 _ (List.mem_of_getElem? (i := 6) rfl), rfl, inr31 _ (List.mem_of_getElem? (i := 7) rfl), by decide +kernel⟩
theorem swL_193 : SWL 193 yL_out cL_out 4 [(0, 9, 12, 13)] 3 := ⟨inr31 _ (List.mem_of_getElem? (i := 16) rfl), inr31 _ (List.mem_of_getElem? (i := 17) rfl), rfl, inr31 _ (List.mem_of_getElem? (i := 18) rfl), by decide +kernel⟩
theorem swL_196 : SWL 196 yL_balloon cL_balloon 5 [(0, 10, 13, 29)] 4 := ⟨inr32 _ (List.mem_of_getElem? (i := 4) rfl), inr32 _ (List.mem_of_getElem? (i := 5) rfl), rfl, inr32 _ (List.mem_of_getElem? (i := 6) rfl), by decide +kernel⟩
theorem swL_199 : SWL 199 yL_waiting cL_waiting 5 [(0, 10, 13, 13), (0, 10, 17, 65)] 4 := ⟨inr32 _ (List.mem_of_getElem? (i := 17) rfl), inr32 _ (List.mem_of_getElem? (i := 18) rfl), rfl, inr32 _ (List.mem_of_getElem? (i := 19) rfl), by decide +kernel⟩
theorem swL_206 : SWL 206 yL_freeze cL_freeze 4 [(0, 9, 12, 13), (0, 9, 15, 88)] 3 := ⟨inr33 _ (List.mem_of_getElem? (i := 18) rfl), inr33 _ (List.mem_of_getElem? (i := 19) rfl), rfl, inr33 _ (List.mem_of_getElem? (i := 20) rfl), by decide +kernel⟩
theorem swL_209 : SWL 209 yL_pending cL_pending 5 [(0, 10, 13, 29)] 4 := ⟨inr34 _ (List.mem_of_getElem? (i := 12) rfl), inr34 _ (List.mem_of_getElem? (i := 13) rfl), rfl, inr34 _ (List.mem_of_getElem? (i := 14) rfl), by decide +kernel⟩
theorem swL_212 : SWL 212 yL_open cL_open 3 [(0, 8, 11, 65)] 2 := ⟨inr35 _ (List.mem_of_getElem? (i := 7) rfl), inr35 _ (List.mem_of_getElem? (i := 8) rfl), rfl, inr35 _ (List.mem_of_getElem? (i := 9) rfl), by decide +kernel⟩
theorem swL_215 : SWL 215 yL_solved cL_solved 5 [(0, 10, 13, 29)] 4 := ⟨inr37 _ (List.mem_of_getElem? (i := 7) rfl), inr37 _ (List.mem_of_getElem? (i := 8) rfl), rfl, inr37 _ (List.mem_of_getElem? (i := 9) rfl), by decide +kernel⟩
theorem swL_218 : SWL 218 yL_penalty cL_penalty 5 [(0, 10, 13, 29)] 4 := ⟨inr37 _ (List.mem_of_getElem? (i := 23) rfl), inr38 _ (List.mem_of_getElem? (i := 0) rfl), rfl, inr38 _ (List.mem_of_getElem? (i := 1) rfl), by decide +kernel⟩
theorem swL_221 : SWL 221 yL_rank cL_rank 5 [(0, 10, 13, 29)] 4 := ⟨inr38 _ (List.mem_of_getElem? (i := 11) rfl), inr38 _ (List.mem_of_getElem? (i := 12) rfl), rfl, inr38 _ (List.mem_of_getElem? (i := 13) rfl), by decide +kernel⟩
theorem swL_224 : SWL 224 yL_ranked cL_ranked 5 [(0, 10, 13, 65)] 4 := ⟨inr39 _ (List.mem_of_getElem? (i := 6) rfl), inr39 _ (List.mem_of_getElem? (i := 7) rfl), rfl, inr39 _ (List.mem_of_getElem? (i := 8) rfl), by decide +kernel⟩
theorem swL_227 : SWL 227 yL_acceptedShare cL_acceptedShare 3 [(0, 8, 11, 112)] 2 := ⟨inr39 _ (List.mem_of_getElem? (i := 17) rfl), inr39 _ (List.mem_of_getElem? (i := 18) rfl), rfl, inr39 _ (List.mem_of_getElem? (i := 19) rfl), by decide +kernel⟩
theorem swL_231 : SWL 231 yL_meanSteps cL_meanSteps 3 [(0, 7, 10, 112)] 2 := ⟨inr40 _ (List.mem_of_getElem? (i := 7) rfl), inr40 _ (List.mem_of_getElem? (i := 8) rfl), rfl, inr40 _ (List.mem_of_getElem? (i := 9) rfl), by decide +kernel⟩
set_option maxRecDepth 100000 in
theorem lc_step {g : GG} {b L : Nat} {xs : Nat → Int32} {j : Nat} {n : Int} {q : Int → List Int} {M : Mem} {kc ks : Nat} (hst : g.1.stackTraces = false) (hL : L ≤ 2048) (hj : 4 * j + 4 ≤ L) (h : JJn n q M) (hn : 0 ≤ n ∧ n ≤ 512) (hroom : kc + 1 ≤ 603072 ∧ ks + 6 ≤ 7215210)
    (kk : ∀ (q2 : Int → List Int) (M2 : Mem), JJn (n + 1) q2 M2 → Okl g b L xs 2243 (lv0 g b j) [] M2 (kc + 1) (ks + 6)) : Okl g b L xs 196 (lv0 g b j) [] M kc ks := by
  refine l_aload_n 1 dL_law_196 rfl rfl ?_
  refine l_arg (m0 := 0) (m5 := 5) 1 dL_law_197 dL_law_198 dL_law_200 dL_law_201 dL_law_202 rfl rfl rfl (by decide) hj hL ?_
  refine l_i2c dL_law_203 ?_
  refine l_arg (m0 := 0) (m5 := 5) 2 dL_law_204 dL_law_205 dL_law_207 dL_law_208 dL_law_209 rfl rfl rfl (by decide) hj hL ?_
  refine l_arg (m0 := 0) (m5 := 5) 3 dL_law_210 dL_law_211 dL_law_213 dL_law_214 dL_law_215 rfl rfl rfl (by decide) hj hL ?_
  refine l_aload_n 3 dL_law_216 rfl rfl ?_
  refine l_callW (as := [rv g 0, iv (cz (ax xs j 1)), iv (ax xs j 2), iv (ax xs j 3), rv g 497]) dL_law_217 swL_122 (c_L_step g M (cz (ax xs j 1)) (ax xs j 2) (ax xs j 3) (cz_rg _) (ax_rg xs j _) (ax_rg xs j _) h.r13 hst) rfl rfl ⟨(Nat.le_of_ble_eq_true rfl), (Nat.le_of_ble_eq_true rfl)⟩ hroom (fun kw Mw hw => ?_)
  obtain ⟨hI, hs⟩ := s_step h hn (cz (ax xs j 1)) (ax xs j 2) (ax xs j 3) (cz_rg _) (ax_rg xs j _) (ax_rg xs j _) hw
  refine l_istore (lv' := (6, iv kw) :: lv0 g b j) dL_law_220 (by decide) rfl ?_
  refine l_aload_n 3 dL_law_222 rfl rfl ?_
  refine l_arg (m0 := 1) (m5 := 6) 1 dL_law_223 dL_law_224 dL_law_226 dL_law_227 dL_law_228 rfl rfl rfl (by decide) hj hL ?_
  refine l_i2c dL_law_229 ?_
  refine l_arg (m0 := 1) (m5 := 6) 2 dL_law_230 dL_law_231 dL_law_233 dL_law_234 dL_law_235 rfl rfl rfl (by decide) hj hL ?_
  refine l_arg (m0 := 1) (m5 := 6) 3 dL_law_236 dL_law_237 dL_law_239 dL_law_240 dL_law_241 rfl rfl rfl (by decide) hj hL ?_
  refine l_callV (as := [iv (cz (ax xs j 1)), iv (ax xs j 2), iv (ax xs j 3)]) (rest := []) dL_law_242 vlL_127 k_468 (c_X9_step g Mw (cz (ax xs j 1)) (ax xs j 2) (ax xs j 3) (h.rb.hi hI) (cz_rg _) (ax_rg xs j _) (ax_rg xs j _)) rfl rfl (Nat.le_of_ble_eq_true rfl) ⟨(Nat.le_of_ble_eq_true rfl), (Nat.le_of_ble_eq_true rfl)⟩ hroom (fun v M9 hv => ?_)
  obtain ⟨zr, rfl, hq⟩ := hv
  obtain ⟨h1, h2, q2, hJ⟩ := hs zr M9 hq
  have e9 : M9 497 0 = Mw 497 0 := by
    rcases hq with ⟨-, rfl⟩ | ⟨-, rfl⟩ | ⟨-, rfl⟩ <;> rfl
  exact l_fin dL_law_245 dL_law_247 dL_law_248 dL_law_251 dL_law_253 dL_law_258 dL_law_260 dL_law_263 dL_law_264 dL_law_265 dL_law_266 dL_law_268 dL_law_269 dL_law_270 dL_law_275 (by decide) hroom h1 (fun hk => e9.trans (h2 hk)) (kk q2 M9 hJ)

set_option maxRecDepth 100000 in
theorem lc_number {g : GG} {b L : Nat} {xs : Nat → Int32} {j : Nat} {n : Int} {q : Int → List Int} {M : Mem} {kc ks : Nat} (hst : g.1.stackTraces = false) (hL : L ≤ 2048) (hj : 4 * j + 4 ≤ L) (h : JJn n q M) (hn : 0 ≤ n ∧ n ≤ 512) (hroom : kc + 1 ≤ 603072 ∧ ks + 6 ≤ 7215210)
    (kk : ∀ (q2 : Int → List Int) (M2 : Mem), JJn (n + 1) q2 M2 → Okl g b L xs 2243 (lv0 g b j) [] M2 (kc + 1) (ks + 6)) : Okl g b L xs 278 (lv0 g b j) [] M kc ks := by
  refine l_aload_n 1 dL_law_278 rfl rfl ?_
  refine l_arg (m0 := 0) (m5 := 5) 1 dL_law_279 dL_law_280 dL_law_282 dL_law_283 dL_law_284 rfl rfl rfl (by decide) hj hL ?_
  refine l_arg (m0 := 0) (m5 := 5) 2 dL_law_285 dL_law_286 dL_law_288 dL_law_289 dL_law_290 rfl rfl rfl (by decide) hj hL ?_
  refine l_bool (t1 := 298) (t2 := 299) dL_law_291 dL_law_294 dL_law_295 dL_law_298 (by decide) (by decide) rfl (ax_rg xs j _) ?_
  refine l_aload_n 3 dL_law_299 rfl rfl ?_
  refine l_callW (as := [rv g 0, iv (ax xs j 1), iv (bz (ax xs j 2)), rv g 497]) dL_law_300 swL_131 (c_L_number g M (ax xs j 1) (bz (ax xs j 2)) (ax_rg xs j _) (bz_01 _) h.r52 hst) rfl rfl ⟨(Nat.le_of_ble_eq_true rfl), (Nat.le_of_ble_eq_true rfl)⟩ hroom (fun kw Mw hw => ?_)
  obtain ⟨hI, hs⟩ := s_number h hn (ax xs j 1) (bz (ax xs j 2)) (ax_rg xs j _) (bz_01 _) hw
  refine l_istore (lv' := (6, iv kw) :: lv0 g b j) dL_law_303 (by decide) rfl ?_
  refine l_aload_n 3 dL_law_305 rfl rfl ?_
  refine l_arg (m0 := 1) (m5 := 6) 1 dL_law_306 dL_law_307 dL_law_309 dL_law_310 dL_law_311 rfl rfl rfl (by decide) hj hL ?_
  refine l_arg (m0 := 1) (m5 := 6) 2 dL_law_312 dL_law_313 dL_law_315 dL_law_316 dL_law_317 rfl rfl rfl (by decide) hj hL ?_
  refine l_bool (t1 := 325) (t2 := 326) dL_law_318 dL_law_321 dL_law_322 dL_law_325 (by decide) (by decide) rfl (ax_rg xs j _) ?_
  refine l_callV (as := [iv (ax xs j 1), iv (bz (ax xs j 2))]) (rest := []) dL_law_326 vlL_134 k_468 (c_X9_number g Mw (ax xs j 1) (bz (ax xs j 2)) (h.rb.hi hI) (ax_rg xs j _) (bz_01 _)) rfl rfl (Nat.le_of_ble_eq_true rfl) ⟨(Nat.le_of_ble_eq_true rfl), (Nat.le_of_ble_eq_true rfl)⟩ hroom (fun v M9 hv => ?_)
  obtain ⟨zr, rfl, hq⟩ := hv
  obtain ⟨h1, h2, q2, hJ⟩ := hs zr M9 hq
  have e9 : M9 497 0 = Mw 497 0 := by
    rcases hq with ⟨-, rfl⟩ | ⟨-, rfl⟩ | ⟨-, ⟨-, -, -, rfl⟩ | ⟨-, -, -, rfl⟩⟩ <;> rfl
  exact l_fin dL_law_329 dL_law_331 dL_law_332 dL_law_335 dL_law_337 dL_law_342 dL_law_344 dL_law_347 dL_law_348 dL_law_349 dL_law_350 dL_law_352 dL_law_353 dL_law_354 dL_law_359 (by decide) hroom h1 (fun hk => e9.trans (h2 hk)) (kk q2 M9 hJ)

set_option maxRecDepth 100000 in
theorem lc_wipe {g : GG} {b L : Nat} {xs : Nat → Int32} {j : Nat} {n : Int} {q : Int → List Int} {M : Mem} {kc ks : Nat} (hst : g.1.stackTraces = false) (hL : L ≤ 2048) (hj : 4 * j + 4 ≤ L) (h : JJn n q M) (hn : 0 ≤ n ∧ n ≤ 512) (hroom : kc + 1 ≤ 603072 ∧ ks + 6 ≤ 7215210)
    (kk : ∀ (q2 : Int → List Int) (M2 : Mem), JJn (n + 1) q2 M2 → Okl g b L xs 2243 (lv0 g b j) [] M2 (kc + 1) (ks + 6)) : Okl g b L xs 362 (lv0 g b j) [] M kc ks := by
  have hroom1 : kc ≤ 603072 ∧ ks ≤ 7215210 := ⟨by omega, by omega⟩
  refine l_aload_n 1 dL_law_362 rfl rfl ?_
  refine l_arg (m0 := 0) (m5 := 5) 1 dL_law_363 dL_law_364 dL_law_366 dL_law_367 dL_law_368 rfl rfl rfl (by decide) hj hL ?_
  refine l_bool (t1 := 376) (t2 := 377) dL_law_369 dL_law_372 dL_law_373 dL_law_376 (by decide) (by decide) rfl (ax_rg xs j _) ?_
  refine l_callV (as := [iv (bz (ax xs j 1))]) (rest := []) dL_law_377 vlL_135 k_0 (c_X8_wipe g M (bz (ax xs j 1)) (bz_01 _) h.r52) rfl rfl (Nat.le_of_ble_eq_true rfl) ⟨(Nat.le_of_ble_eq_true rfl), (Nat.le_of_ble_eq_true rfl)⟩ hroom1 (fun v Mw hv => ?_)
  obtain ⟨zc, rfl, hw⟩ := hv
  obtain ⟨hI, hs⟩ := s_wipe h hn (bz (ax xs j 1)) (bz_01 _) hw
  refine l_aload_n 2 dL_law_380 rfl rfl ?_
  refine l_arg (m0 := 0) (m5 := 5) 1 dL_law_381 dL_law_382 dL_law_384 dL_law_385 dL_law_386 rfl rfl rfl (by decide) hj hL ?_
  refine l_bool (t1 := 394) (t2 := 395) dL_law_387 dL_law_390 dL_law_391 dL_law_394 (by decide) (by decide) rfl (ax_rg xs j _) ?_
  refine l_callV (as := [iv (bz (ax xs j 1))]) (rest := [iv zc]) dL_law_395 vlL_139 k_468 (c_X9_wipe g Mw (bz (ax xs j 1)) (h.rb.hi hI) (bz_01 _)) rfl rfl (Nat.le_of_ble_eq_true rfl) ⟨(Nat.le_of_ble_eq_true rfl), (Nat.le_of_ble_eq_true rfl)⟩ hroom1 (fun v M9 hv => ?_)
  obtain ⟨zr, rfl, hq⟩ := hv
  obtain ⟨h1, q2, hJ⟩ := hs zr M9 hq
  subst h1
  exact l_icmp_eqT (tgt := 2243) dL_law_398 (by decide) (l_room (by omega) (by omega) (kk q2 M9 hJ))

set_option maxRecDepth 100000 in
theorem lc_problem {g : GG} {b L : Nat} {xs : Nat → Int32} {j : Nat} {n : Int} {q : Int → List Int} {M : Mem} {kc ks : Nat} (hst : g.1.stackTraces = false) (hL : L ≤ 2048) (hj : 4 * j + 4 ≤ L) (h : JJn n q M) (hn : 0 ≤ n ∧ n ≤ 512) (hroom : kc + 1 ≤ 603072 ∧ ks + 6 ≤ 7215210)
    (kk : ∀ (q2 : Int → List Int) (M2 : Mem), JJn (n + 1) q2 M2 → Okl g b L xs 2243 (lv0 g b j) [] M2 (kc + 1) (ks + 6)) : Okl g b L xs 403 (lv0 g b j) [] M kc ks := by
  refine l_aload_n 1 dL_law_403 rfl rfl ?_
  refine l_arg (m0 := 0) (m5 := 5) 1 dL_law_404 dL_law_405 dL_law_407 dL_law_408 dL_law_409 rfl rfl rfl (by decide) hj hL ?_
  refine l_arg (m0 := 0) (m5 := 5) 2 dL_law_410 dL_law_411 dL_law_413 dL_law_414 dL_law_415 rfl rfl rfl (by decide) hj hL ?_
  refine l_aload_n 3 dL_law_416 rfl rfl ?_
  refine l_callW (as := [rv g 0, iv (ax xs j 1), iv (ax xs j 2), rv g 497]) dL_law_417 swL_140 (c_L_problem g M (ax xs j 1) (ax xs j 2) h.cr (ax_rg xs j _) (ax_rg xs j _) hst) rfl rfl ⟨(Nat.le_of_ble_eq_true rfl), (Nat.le_of_ble_eq_true rfl)⟩ hroom (fun kw Mw hw => ?_)
  obtain ⟨hI, hs⟩ := s_problem h hn (ax xs j 1) (ax xs j 2) (ax_rg xs j _) (ax_rg xs j _) hw
  refine l_istore (lv' := (6, iv kw) :: lv0 g b j) dL_law_420 (by decide) rfl ?_
  refine l_aload_n 3 dL_law_422 rfl rfl ?_
  refine l_arg (m0 := 1) (m5 := 6) 1 dL_law_423 dL_law_424 dL_law_426 dL_law_427 dL_law_428 rfl rfl rfl (by decide) hj hL ?_
  refine l_arg (m0 := 1) (m5 := 6) 2 dL_law_429 dL_law_430 dL_law_432 dL_law_433 dL_law_434 rfl rfl rfl (by decide) hj hL ?_
  refine l_callV (as := [iv (ax xs j 1), iv (ax xs j 2)]) (rest := []) dL_law_435 vlL_143 k_468 (c_X9_problem g Mw (ax xs j 1) (ax xs j 2) (h.rb.hi hI) (ax_rg xs j _) (ax_rg xs j _)) rfl rfl (Nat.le_of_ble_eq_true rfl) ⟨(Nat.le_of_ble_eq_true rfl), (Nat.le_of_ble_eq_true rfl)⟩ hroom (fun v M9 hv => ?_)
  obtain ⟨zr, rfl, hq⟩ := hv
  obtain ⟨h1, h2, q2, hJ⟩ := hs zr M9 hq
  have e9 : M9 497 0 = Mw 497 0 := by
    rcases hq with ⟨-, rfl⟩ | ⟨-, rfl⟩ | ⟨-, rfl⟩ <;> rfl
  exact l_fin dL_law_438 dL_law_440 dL_law_441 dL_law_444 dL_law_446 dL_law_451 dL_law_453 dL_law_456 dL_law_457 dL_law_458 dL_law_459 dL_law_461 dL_law_462 dL_law_463 dL_law_468 (by decide) hroom h1 (fun hk => e9.trans (h2 hk)) (kk q2 M9 hJ)

set_option maxRecDepth 100000 in
theorem lc_test {g : GG} {b L : Nat} {xs : Nat → Int32} {j : Nat} {n : Int} {q : Int → List Int} {M : Mem} {kc ks : Nat} (hst : g.1.stackTraces = false) (hL : L ≤ 2048) (hj : 4 * j + 4 ≤ L) (h : JJn n q M) (hn : 0 ≤ n ∧ n ≤ 512) (hroom : kc + 1 ≤ 603072 ∧ ks + 6 ≤ 7215210)
    (kk : ∀ (q2 : Int → List Int) (M2 : Mem), JJn (n + 1) q2 M2 → Okl g b L xs 2243 (lv0 g b j) [] M2 (kc + 1) (ks + 6)) : Okl g b L xs 471 (lv0 g b j) [] M kc ks := by
  refine l_aload_n 1 dL_law_471 rfl rfl ?_
  refine l_arg (m0 := 0) (m5 := 5) 1 dL_law_472 dL_law_473 dL_law_475 dL_law_476 dL_law_477 rfl rfl rfl (by decide) hj hL ?_
  refine l_aload_n 3 dL_law_478 rfl rfl ?_
  refine l_callW (as := [rv g 0, iv (ax xs j 1), rv g 497]) dL_law_479 swL_144 (c_L_test g M (ax xs j 1) (bM M q) h.cr (ax_rg xs j _) h.pgs h.nu5 h.si h.dk (h.bs hn) hst) rfl rfl ⟨(Nat.le_of_ble_eq_true rfl), (Nat.le_of_ble_eq_true rfl)⟩ hroom (fun kw Mw hw => ?_)
  obtain ⟨hI, hs⟩ := s_test h hn (ax xs j 1) (ax_rg xs j _) hw
  refine l_istore (lv' := (6, iv kw) :: lv0 g b j) dL_law_482 (by decide) rfl ?_
  refine l_aload_n 3 dL_law_484 rfl rfl ?_
  refine l_arg (m0 := 1) (m5 := 6) 1 dL_law_485 dL_law_486 dL_law_488 dL_law_489 dL_law_490 rfl rfl rfl (by decide) hj hL ?_
  refine l_callV (as := [iv (ax xs j 1)]) (rest := []) dL_law_491 vlL_147 k_468 (c_X9_test g Mw (ax xs j 1) (bM M q) (h.rb.hi hI) (ax_rg xs j _) (h.rbs hn hI) (h.st hn hI)) rfl rfl (Nat.le_of_ble_eq_true rfl) ⟨(Nat.le_of_ble_eq_true rfl), (Nat.le_of_ble_eq_true rfl)⟩ hroom (fun v M9 hv => ?_)
  obtain ⟨zr, rfl, hq⟩ := hv
  obtain ⟨h1, h2, q2, hJ⟩ := hs zr M9 hq
  have e9 : M9 497 0 = Mw 497 0 := by
    rcases hq with ⟨-, rfl⟩ | ⟨-, rfl⟩ | ⟨-, h9⟩
    · rfl
    · rfl
    · exact tsp_497 h9
  exact l_fin dL_law_494 dL_law_496 dL_law_497 dL_law_500 dL_law_502 dL_law_507 dL_law_509 dL_law_512 dL_law_513 dL_law_514 dL_law_515 dL_law_517 dL_law_518 dL_law_519 dL_law_524 (by decide) hroom h1 (fun hk => e9.trans (h2 hk)) (kk q2 M9 hJ)

set_option maxRecDepth 100000 in
theorem lc_fix {g : GG} {b L : Nat} {xs : Nat → Int32} {j : Nat} {n : Int} {q : Int → List Int} {M : Mem} {kc ks : Nat} (hst : g.1.stackTraces = false) (hL : L ≤ 2048) (hj : 4 * j + 4 ≤ L) (h : JJn n q M) (hn : 0 ≤ n ∧ n ≤ 512) (hroom : kc + 1 ≤ 603072 ∧ ks + 6 ≤ 7215210)
    (kk : ∀ (q2 : Int → List Int) (M2 : Mem), JJn (n + 1) q2 M2 → Okl g b L xs 2243 (lv0 g b j) [] M2 (kc + 1) (ks + 6)) : Okl g b L xs 527 (lv0 g b j) [] M kc ks := by
  refine l_aload_n 1 dL_law_527 rfl rfl ?_
  refine l_arg (m0 := 0) (m5 := 5) 1 dL_law_528 dL_law_529 dL_law_531 dL_law_532 dL_law_533 rfl rfl rfl (by decide) hj hL ?_
  refine l_arg (m0 := 0) (m5 := 5) 2 dL_law_534 dL_law_535 dL_law_537 dL_law_538 dL_law_539 rfl rfl rfl (by decide) hj hL ?_
  refine l_aload_n 3 dL_law_540 rfl rfl ?_
  refine l_callW (as := [rv g 0, iv (ax xs j 1), iv (ax xs j 2), rv g 497]) dL_law_541 swL_148 (c_L_fix g M (ax xs j 1) (ax xs j 2) (bM M q) h.cr (ax_rg xs j _) (ax_rg xs j _) h.pgs h.nu5 h.si h.dk (h.bs hn) hst) rfl rfl ⟨(Nat.le_of_ble_eq_true rfl), (Nat.le_of_ble_eq_true rfl)⟩ hroom (fun kw Mw hw => ?_)
  obtain ⟨hI, hs⟩ := s_fix h hn (ax xs j 1) (ax xs j 2) (ax_rg xs j _) (ax_rg xs j _) hw
  refine l_istore (lv' := (6, iv kw) :: lv0 g b j) dL_law_544 (by decide) rfl ?_
  refine l_aload_n 3 dL_law_546 rfl rfl ?_
  refine l_arg (m0 := 1) (m5 := 6) 1 dL_law_547 dL_law_548 dL_law_550 dL_law_551 dL_law_552 rfl rfl rfl (by decide) hj hL ?_
  refine l_arg (m0 := 1) (m5 := 6) 2 dL_law_553 dL_law_554 dL_law_556 dL_law_557 dL_law_558 rfl rfl rfl (by decide) hj hL ?_
  refine l_callV (as := [iv (ax xs j 1), iv (ax xs j 2)]) (rest := []) dL_law_559 vlL_150 k_468 (c_X9_fix g Mw (ax xs j 1) (ax xs j 2) (bM M q) (h.rb.hi hI) (ax_rg xs j _) (ax_rg xs j _) (h.rbs hn hI) (h.st hn hI)) rfl rfl (Nat.le_of_ble_eq_true rfl) ⟨(Nat.le_of_ble_eq_true rfl), (Nat.le_of_ble_eq_true rfl)⟩ hroom (fun v M9 hv => ?_)
  obtain ⟨zr, rfl, hq⟩ := hv
  obtain ⟨h1, h2, q2, hJ⟩ := hs zr M9 hq
  have e9 : M9 497 0 = Mw 497 0 := by
    rcases hq with ⟨-, rfl⟩ | ⟨-, h9⟩
    · rfl
    · exact tsp_497 h9
  exact l_fin dL_law_562 dL_law_564 dL_law_565 dL_law_568 dL_law_570 dL_law_575 dL_law_577 dL_law_580 dL_law_581 dL_law_582 dL_law_583 dL_law_585 dL_law_586 dL_law_587 dL_law_592 (by decide) hroom h1 (fun hk => e9.trans (h2 hk)) (kk q2 M9 hJ)

set_option maxRecDepth 100000 in
theorem lc_tests {g : GG} {b L : Nat} {xs : Nat → Int32} {j : Nat} {n : Int} {q : Int → List Int} {M : Mem} {kc ks : Nat} (hst : g.1.stackTraces = false) (hL : L ≤ 2048) (hj : 4 * j + 4 ≤ L) (h : JJn n q M) (hn : 0 ≤ n ∧ n ≤ 512) (hroom : kc + 1 ≤ 603072 ∧ ks + 6 ≤ 7215210)
    (kk : ∀ (q2 : Int → List Int) (M2 : Mem), JJn (n + 1) q2 M2 → Okl g b L xs 2243 (lv0 g b j) [] M2 (kc + 1) (ks + 6)) : Okl g b L xs 595 (lv0 g b j) [] M kc ks := by
  refine l_aload_n 1 dL_law_595 rfl rfl ?_
  refine l_arg (m0 := 0) (m5 := 5) 1 dL_law_596 dL_law_597 dL_law_599 dL_law_600 dL_law_601 rfl rfl rfl (by decide) hj hL ?_
  refine l_aload_n 3 dL_law_602 rfl rfl ?_
  refine l_callW (as := [rv g 0, iv (ax xs j 1), rv g 497]) dL_law_603 swL_151 (c_L_tests g M (ax xs j 1) h.cr (ax_rg xs j _) hst) rfl rfl ⟨(Nat.le_of_ble_eq_true rfl), (Nat.le_of_ble_eq_true rfl)⟩ hroom (fun kw Mw hw => ?_)
  obtain ⟨hI, hs⟩ := s_tests h hn (ax xs j 1) (ax_rg xs j _) hw
  refine l_istore (lv' := (6, iv kw) :: lv0 g b j) dL_law_606 (by decide) rfl ?_
  refine l_aload_n 3 dL_law_608 rfl rfl ?_
  refine l_arg (m0 := 1) (m5 := 6) 1 dL_law_609 dL_law_610 dL_law_612 dL_law_613 dL_law_614 rfl rfl rfl (by decide) hj hL ?_
  refine l_callV (as := [iv (ax xs j 1)]) (rest := []) dL_law_615 vlL_153 k_468 (c_X9_tests g Mw (ax xs j 1) (h.rb.hi hI) (ax_rg xs j _)) rfl rfl (Nat.le_of_ble_eq_true rfl) ⟨(Nat.le_of_ble_eq_true rfl), (Nat.le_of_ble_eq_true rfl)⟩ hroom (fun v M9 hv => ?_)
  obtain ⟨zr, rfl, hq⟩ := hv
  obtain ⟨h1, h2, q2, hJ⟩ := hs zr M9 hq
  have e9 : M9 497 0 = Mw 497 0 := by
    obtain ⟨cd, rfl, -⟩ := hq
    rfl
  exact l_fin dL_law_618 dL_law_620 dL_law_621 dL_law_624 dL_law_626 dL_law_631 dL_law_633 dL_law_636 dL_law_637 dL_law_638 dL_law_639 dL_law_641 dL_law_642 dL_law_643 dL_law_648 (by decide) hroom h1 (fun hk => e9.trans (h2 hk)) (kk q2 M9 hJ)

set_option maxRecDepth 100000 in
theorem lc_team {g : GG} {b L : Nat} {xs : Nat → Int32} {j : Nat} {n : Int} {q : Int → List Int} {M : Mem} {kc ks : Nat} (hst : g.1.stackTraces = false) (hL : L ≤ 2048) (hj : 4 * j + 4 ≤ L) (h : JJn n q M) (hn : 0 ≤ n ∧ n ≤ 512) (hroom : kc + 1 ≤ 603072 ∧ ks + 6 ≤ 7215210)
    (kk : ∀ (q2 : Int → List Int) (M2 : Mem), JJn (n + 1) q2 M2 → Okl g b L xs 2243 (lv0 g b j) [] M2 (kc + 1) (ks + 6)) : Okl g b L xs 651 (lv0 g b j) [] M kc ks := by
  refine l_aload_n 1 dL_law_651 rfl rfl ?_
  refine l_aload_n 3 dL_law_652 rfl rfl ?_
  refine l_callW (as := [rv g 0, rv g 497]) dL_law_653 swL_154 (c_L_team g M h.cr hst) rfl rfl ⟨(Nat.le_of_ble_eq_true rfl), (Nat.le_of_ble_eq_true rfl)⟩ hroom (fun kw Mw hw => ?_)
  obtain ⟨hI, hs⟩ := s_team h hn  hw
  refine l_istore (lv' := (6, iv kw) :: lv0 g b j) dL_law_656 (by decide) rfl ?_
  refine l_aload_n 3 dL_law_658 rfl rfl ?_
  refine l_callV (as := []) (rest := []) dL_law_659 vlL_157 k_468 (c_X9_team g Mw (h.rb.hi hI)) rfl rfl (Nat.le_of_ble_eq_true rfl) ⟨(Nat.le_of_ble_eq_true rfl), (Nat.le_of_ble_eq_true rfl)⟩ hroom (fun v M9 hv => ?_)
  obtain ⟨zr, rfl, hq⟩ := hv
  obtain ⟨h1, h2, q2, hJ⟩ := hs zr M9 hq
  have e9 : M9 497 0 = Mw 497 0 := by
    rcases hq with ⟨-, rfl⟩ | ⟨-, -, -, -, -, h9⟩
    · rfl
    · exact h9 497 0 (by omega) (by omega)
  exact l_fin dL_law_662 dL_law_664 dL_law_665 dL_law_668 dL_law_670 dL_law_675 dL_law_677 dL_law_680 dL_law_681 dL_law_682 dL_law_683 dL_law_685 dL_law_686 dL_law_687 dL_law_692 (by decide) hroom h1 (fun hk => e9.trans (h2 hk)) (kk q2 M9 hJ)

set_option maxRecDepth 100000 in
theorem lc_submit {g : GG} {b L : Nat} {xs : Nat → Int32} {j : Nat} {n : Int} {q : Int → List Int} {M : Mem} {kc ks : Nat} (hst : g.1.stackTraces = false) (hL : L ≤ 2048) (hj : 4 * j + 4 ≤ L) (h : JJn n q M) (hn : 0 ≤ n ∧ n ≤ 512) (hroom : kc + 1 ≤ 603072 ∧ ks + 6 ≤ 7215210)
    (kk : ∀ (q2 : Int → List Int) (M2 : Mem), JJn (n + 1) q2 M2 → Okl g b L xs 2243 (lv0 g b j) [] M2 (kc + 1) (ks + 6)) : Okl g b L xs 695 (lv0 g b j) [] M kc ks := by
  refine l_aload_n 1 dL_law_695 rfl rfl ?_
  refine l_arg (m0 := 0) (m5 := 5) 1 dL_law_696 dL_law_697 dL_law_699 dL_law_700 dL_law_701 rfl rfl rfl (by decide) hj hL ?_
  refine l_arg (m0 := 0) (m5 := 5) 2 dL_law_702 dL_law_703 dL_law_705 dL_law_706 dL_law_707 rfl rfl rfl (by decide) hj hL ?_
  refine l_arg (m0 := 0) (m5 := 5) 3 dL_law_708 dL_law_709 dL_law_711 dL_law_712 dL_law_713 rfl rfl rfl (by decide) hj hL ?_
  refine l_aload_n 3 dL_law_714 rfl rfl ?_
  refine l_callW (as := [rv g 0, iv (ax xs j 1), iv (ax xs j 2), iv (ax xs j 3), rv g 497]) dL_law_715 swL_158 (c_L_submit g M (ax xs j 1) (ax xs j 2) (ax xs j 3) (bM M q) h.cr (ax_rg xs j _) (ax_rg xs j _) (ax_rg xs j _) h.pg1 h.nus h.si h.dk (h.bs hn) hst) rfl rfl ⟨(Nat.le_of_ble_eq_true rfl), (Nat.le_of_ble_eq_true rfl)⟩ hroom (fun kw Mw hw => ?_)
  obtain ⟨hI, hs⟩ := s_submit h hn (ax xs j 1) (ax xs j 2) (ax xs j 3) (ax_rg xs j _) (ax_rg xs j _) (ax_rg xs j _) hw
  refine l_istore (lv' := (6, iv kw) :: lv0 g b j) dL_law_718 (by decide) rfl ?_
  refine l_aload_n 3 dL_law_720 rfl rfl ?_
  refine l_arg (m0 := 1) (m5 := 6) 1 dL_law_721 dL_law_722 dL_law_724 dL_law_725 dL_law_726 rfl rfl rfl (by decide) hj hL ?_
  refine l_arg (m0 := 1) (m5 := 6) 2 dL_law_727 dL_law_728 dL_law_730 dL_law_731 dL_law_732 rfl rfl rfl (by decide) hj hL ?_
  refine l_arg (m0 := 1) (m5 := 6) 3 dL_law_733 dL_law_734 dL_law_736 dL_law_737 dL_law_738 rfl rfl rfl (by decide) hj hL ?_
  refine l_callV (as := [iv (ax xs j 1), iv (ax xs j 2), iv (ax xs j 3)]) (rest := []) dL_law_739 vlL_161 k_468 (c_X9_submit g Mw (ax xs j 1) (ax xs j 2) (ax xs j 3) (bM M q) (h.rb.hi hI) (ax_rg xs j _) (ax_rg xs j _) (ax_rg xs j _) (h.rbs hn hI) (h.st hn hI)) rfl rfl (Nat.le_of_ble_eq_true rfl) ⟨(Nat.le_of_ble_eq_true rfl), (Nat.le_of_ble_eq_true rfl)⟩ hroom (fun v M9 hv => ?_)
  obtain ⟨zr, rfl, hq⟩ := hv
  obtain ⟨h1, h2, q2, hJ⟩ := hs zr M9 hq
  have e9 : M9 497 0 = Mw 497 0 := by
    rcases hq with ⟨-, rfl⟩ | ⟨-, rfl⟩ | ⟨-, rfl⟩ | ⟨-, -, M1, M2, b2, h5, h6, -, h7, -⟩
    · rfl
    · rfl
    · rfl
    · exact (h7.1 497 0 (fun w => by have := w.1; omega) (by omega) (by omega)).trans ((h6.1 497 0 (by omega)).trans (sb_497 h5))
  exact l_fin dL_law_742 dL_law_744 dL_law_745 dL_law_748 dL_law_750 dL_law_755 dL_law_757 dL_law_760 dL_law_761 dL_law_762 dL_law_763 dL_law_765 dL_law_766 dL_law_767 dL_law_772 (by decide) hroom h1 (fun hk => e9.trans (h2 hk)) (kk q2 M9 hJ)

set_option maxRecDepth 100000 in
theorem lc_verdict {g : GG} {b L : Nat} {xs : Nat → Int32} {j : Nat} {n : Int} {q : Int → List Int} {M : Mem} {kc ks : Nat} (hst : g.1.stackTraces = false) (hL : L ≤ 2048) (hj : 4 * j + 4 ≤ L) (h : JJn n q M) (hn : 0 ≤ n ∧ n ≤ 512) (hroom : kc + 1 ≤ 603072 ∧ ks + 6 ≤ 7215210)
    (kk : ∀ (q2 : Int → List Int) (M2 : Mem), JJn (n + 1) q2 M2 → Okl g b L xs 2243 (lv0 g b j) [] M2 (kc + 1) (ks + 6)) : Okl g b L xs 775 (lv0 g b j) [] M kc ks := by
  refine l_aload_n 1 dL_law_775 rfl rfl ?_
  refine l_arg (m0 := 0) (m5 := 5) 1 dL_law_776 dL_law_777 dL_law_779 dL_law_780 dL_law_781 rfl rfl rfl (by decide) hj hL ?_
  refine l_aload_n 3 dL_law_782 rfl rfl ?_
  refine l_callW (as := [rv g 0, iv (ax xs j 1), rv g 497]) dL_law_783 swL_162 (c_L_verdict g M (ax xs j 1) h.cr (ax_rg xs j _) hst) rfl rfl ⟨(Nat.le_of_ble_eq_true rfl), (Nat.le_of_ble_eq_true rfl)⟩ hroom (fun kw Mw hw => ?_)
  obtain ⟨hI, hs⟩ := s_verdict h hn (ax xs j 1) (ax_rg xs j _) hw
  refine l_istore (lv' := (6, iv kw) :: lv0 g b j) dL_law_786 (by decide) rfl ?_
  refine l_aload_n 3 dL_law_788 rfl rfl ?_
  refine l_arg (m0 := 1) (m5 := 6) 1 dL_law_789 dL_law_790 dL_law_792 dL_law_793 dL_law_794 rfl rfl rfl (by decide) hj hL ?_
  refine l_callV (as := [iv (ax xs j 1)]) (rest := []) dL_law_795 vlL_164 k_468 (c_X9_verdict g Mw (ax xs j 1) (h.rb.hi hI) (ax_rg xs j _)) rfl rfl (Nat.le_of_ble_eq_true rfl) ⟨(Nat.le_of_ble_eq_true rfl), (Nat.le_of_ble_eq_true rfl)⟩ hroom (fun v M9 hv => ?_)
  obtain ⟨zr, rfl, hq⟩ := hv
  obtain ⟨h1, h2, q2, hJ⟩ := hs zr M9 hq
  have e9 : M9 497 0 = Mw 497 0 := by
    obtain ⟨cd, rfl, -⟩ := hq
    rfl
  exact l_fin dL_law_798 dL_law_800 dL_law_801 dL_law_804 dL_law_806 dL_law_811 dL_law_813 dL_law_816 dL_law_817 dL_law_818 dL_law_819 dL_law_821 dL_law_822 dL_law_823 dL_law_828 (by decide) hroom h1 (fun hk => e9.trans (h2 hk)) (kk q2 M9 hJ)

set_option maxRecDepth 100000 in
theorem lc_failed {g : GG} {b L : Nat} {xs : Nat → Int32} {j : Nat} {n : Int} {q : Int → List Int} {M : Mem} {kc ks : Nat} (hst : g.1.stackTraces = false) (hL : L ≤ 2048) (hj : 4 * j + 4 ≤ L) (h : JJn n q M) (hn : 0 ≤ n ∧ n ≤ 512) (hroom : kc + 1 ≤ 603072 ∧ ks + 6 ≤ 7215210)
    (kk : ∀ (q2 : Int → List Int) (M2 : Mem), JJn (n + 1) q2 M2 → Okl g b L xs 2243 (lv0 g b j) [] M2 (kc + 1) (ks + 6)) : Okl g b L xs 831 (lv0 g b j) [] M kc ks := by
  refine l_aload_n 1 dL_law_831 rfl rfl ?_
  refine l_arg (m0 := 0) (m5 := 5) 1 dL_law_832 dL_law_833 dL_law_835 dL_law_836 dL_law_837 rfl rfl rfl (by decide) hj hL ?_
  refine l_aload_n 3 dL_law_838 rfl rfl ?_
  refine l_callW (as := [rv g 0, iv (ax xs j 1), rv g 497]) dL_law_839 swL_165 (c_L_failed g M (ax xs j 1) h.cr (ax_rg xs j _) hst) rfl rfl ⟨(Nat.le_of_ble_eq_true rfl), (Nat.le_of_ble_eq_true rfl)⟩ hroom (fun kw Mw hw => ?_)
  obtain ⟨hI, hs⟩ := s_failed h hn (ax xs j 1) (ax_rg xs j _) hw
  refine l_istore (lv' := (6, iv kw) :: lv0 g b j) dL_law_842 (by decide) rfl ?_
  refine l_aload_n 3 dL_law_844 rfl rfl ?_
  refine l_arg (m0 := 1) (m5 := 6) 1 dL_law_845 dL_law_846 dL_law_848 dL_law_849 dL_law_850 rfl rfl rfl (by decide) hj hL ?_
  refine l_callV (as := [iv (ax xs j 1)]) (rest := []) dL_law_851 vlL_167 k_468 (c_X9_failed g Mw (ax xs j 1) (h.rb.hi hI) (ax_rg xs j _)) rfl rfl (Nat.le_of_ble_eq_true rfl) ⟨(Nat.le_of_ble_eq_true rfl), (Nat.le_of_ble_eq_true rfl)⟩ hroom (fun v M9 hv => ?_)
  obtain ⟨zr, rfl, hq⟩ := hv
  obtain ⟨h1, h2, q2, hJ⟩ := hs zr M9 hq
  have e9 : M9 497 0 = Mw 497 0 := by
    obtain ⟨cd, rfl, -⟩ := hq
    rfl
  exact l_fin dL_law_854 dL_law_856 dL_law_857 dL_law_860 dL_law_862 dL_law_867 dL_law_869 dL_law_872 dL_law_873 dL_law_874 dL_law_875 dL_law_877 dL_law_878 dL_law_879 dL_law_884 (by decide) hroom h1 (fun hk => e9.trans (h2 hk)) (kk q2 M9 hJ)

set_option maxRecDepth 100000 in
theorem lc_ended {g : GG} {b L : Nat} {xs : Nat → Int32} {j : Nat} {n : Int} {q : Int → List Int} {M : Mem} {kc ks : Nat} (hst : g.1.stackTraces = false) (hL : L ≤ 2048) (hj : 4 * j + 4 ≤ L) (h : JJn n q M) (hn : 0 ≤ n ∧ n ≤ 512) (hroom : kc + 1 ≤ 603072 ∧ ks + 6 ≤ 7215210)
    (kk : ∀ (q2 : Int → List Int) (M2 : Mem), JJn (n + 1) q2 M2 → Okl g b L xs 2243 (lv0 g b j) [] M2 (kc + 1) (ks + 6)) : Okl g b L xs 887 (lv0 g b j) [] M kc ks := by
  refine l_aload_n 1 dL_law_887 rfl rfl ?_
  refine l_arg (m0 := 0) (m5 := 5) 1 dL_law_888 dL_law_889 dL_law_891 dL_law_892 dL_law_893 rfl rfl rfl (by decide) hj hL ?_
  refine l_arg (m0 := 0) (m5 := 5) 2 dL_law_894 dL_law_895 dL_law_897 dL_law_898 dL_law_899 rfl rfl rfl (by decide) hj hL ?_
  refine l_aload_n 3 dL_law_900 rfl rfl ?_
  refine l_callW (as := [rv g 0, iv (ax xs j 1), iv (ax xs j 2), rv g 497]) dL_law_901 swL_168 (c_L_ended g M (ax xs j 1) (ax xs j 2) h.cr (ax_rg xs j _) (ax_rg xs j _) h.dk hst) rfl rfl ⟨(Nat.le_of_ble_eq_true rfl), (Nat.le_of_ble_eq_true rfl)⟩ hroom (fun kw Mw hw => ?_)
  obtain ⟨hI, hs⟩ := s_ended h hn (ax xs j 1) (ax xs j 2) (ax_rg xs j _) (ax_rg xs j _) hw
  refine l_istore (lv' := (6, iv kw) :: lv0 g b j) dL_law_904 (by decide) rfl ?_
  refine l_aload_n 3 dL_law_906 rfl rfl ?_
  refine l_arg (m0 := 1) (m5 := 6) 1 dL_law_907 dL_law_908 dL_law_910 dL_law_911 dL_law_912 rfl rfl rfl (by decide) hj hL ?_
  refine l_arg (m0 := 1) (m5 := 6) 2 dL_law_913 dL_law_914 dL_law_916 dL_law_917 dL_law_918 rfl rfl rfl (by decide) hj hL ?_
  refine l_callV (as := [iv (ax xs j 1), iv (ax xs j 2)]) (rest := []) dL_law_919 vlL_170 k_468 (c_X9_ended g Mw (ax xs j 1) (ax xs j 2) (h.rb.hi hI) (ax_rg xs j _) (ax_rg xs j _)) rfl rfl (Nat.le_of_ble_eq_true rfl) ⟨(Nat.le_of_ble_eq_true rfl), (Nat.le_of_ble_eq_true rfl)⟩ hroom (fun v M9 hv => ?_)
  obtain ⟨zr, rfl, hq⟩ := hv
  obtain ⟨h1, h2, q2, hJ⟩ := hs zr M9 hq
  have e9 : M9 497 0 = Mw 497 0 := by
    obtain ⟨cd, rfl, -⟩ := hq
    rfl
  exact l_fin dL_law_922 dL_law_924 dL_law_925 dL_law_928 dL_law_930 dL_law_935 dL_law_937 dL_law_940 dL_law_941 dL_law_942 dL_law_943 dL_law_945 dL_law_946 dL_law_947 dL_law_952 (by decide) hroom h1 (fun hk => e9.trans (h2 hk)) (kk q2 M9 hJ)

set_option maxRecDepth 100000 in
theorem lc_steps {g : GG} {b L : Nat} {xs : Nat → Int32} {j : Nat} {n : Int} {q : Int → List Int} {M : Mem} {kc ks : Nat} (hst : g.1.stackTraces = false) (hL : L ≤ 2048) (hj : 4 * j + 4 ≤ L) (h : JJn n q M) (hn : 0 ≤ n ∧ n ≤ 512) (hroom : kc + 1 ≤ 603072 ∧ ks + 6 ≤ 7215210)
    (kk : ∀ (q2 : Int → List Int) (M2 : Mem), JJn (n + 1) q2 M2 → Okl g b L xs 2243 (lv0 g b j) [] M2 (kc + 1) (ks + 6)) : Okl g b L xs 955 (lv0 g b j) [] M kc ks := by
  refine l_aload_n 1 dL_law_955 rfl rfl ?_
  refine l_arg (m0 := 0) (m5 := 5) 1 dL_law_956 dL_law_957 dL_law_959 dL_law_960 dL_law_961 rfl rfl rfl (by decide) hj hL ?_
  refine l_arg (m0 := 0) (m5 := 5) 2 dL_law_962 dL_law_963 dL_law_965 dL_law_966 dL_law_967 rfl rfl rfl (by decide) hj hL ?_
  refine l_aload_n 3 dL_law_968 rfl rfl ?_
  refine l_callW (as := [rv g 0, iv (ax xs j 1), iv (ax xs j 2), rv g 497]) dL_law_969 swL_171 (c_L_steps g M (ax xs j 1) (ax xs j 2) h.cr (ax_rg xs j _) (ax_rg xs j _) hst) rfl rfl ⟨(Nat.le_of_ble_eq_true rfl), (Nat.le_of_ble_eq_true rfl)⟩ hroom (fun kw Mw hw => ?_)
  obtain ⟨hI, hs⟩ := s_steps h hn (ax xs j 1) (ax xs j 2) (ax_rg xs j _) (ax_rg xs j _) hw
  refine l_istore (lv' := (6, iv kw) :: lv0 g b j) dL_law_972 (by decide) rfl ?_
  refine l_aload_n 3 dL_law_974 rfl rfl ?_
  refine l_arg (m0 := 1) (m5 := 6) 1 dL_law_975 dL_law_976 dL_law_978 dL_law_979 dL_law_980 rfl rfl rfl (by decide) hj hL ?_
  refine l_arg (m0 := 1) (m5 := 6) 2 dL_law_981 dL_law_982 dL_law_984 dL_law_985 dL_law_986 rfl rfl rfl (by decide) hj hL ?_
  refine l_callV (as := [iv (ax xs j 1), iv (ax xs j 2)]) (rest := []) dL_law_987 vlL_173 k_468 (c_X9_steps g Mw (ax xs j 1) (ax xs j 2) (h.rb.hi hI) (ax_rg xs j _) (ax_rg xs j _)) rfl rfl (Nat.le_of_ble_eq_true rfl) ⟨(Nat.le_of_ble_eq_true rfl), (Nat.le_of_ble_eq_true rfl)⟩ hroom (fun v M9 hv => ?_)
  obtain ⟨zr, rfl, hq⟩ := hv
  obtain ⟨h1, h2, q2, hJ⟩ := hs zr M9 hq
  have e9 : M9 497 0 = Mw 497 0 := by
    obtain ⟨cd, rfl, -⟩ := hq
    rfl
  exact l_fin dL_law_990 dL_law_992 dL_law_993 dL_law_996 dL_law_998 dL_law_1003 dL_law_1005 dL_law_1008 dL_law_1009 dL_law_1010 dL_law_1011 dL_law_1013 dL_law_1014 dL_law_1015 dL_law_1020 (by decide) hroom h1 (fun hk => e9.trans (h2 hk)) (kk q2 M9 hJ)

set_option maxRecDepth 100000 in
theorem lc_outputs {g : GG} {b L : Nat} {xs : Nat → Int32} {j : Nat} {n : Int} {q : Int → List Int} {M : Mem} {kc ks : Nat} (hst : g.1.stackTraces = false) (hL : L ≤ 2048) (hj : 4 * j + 4 ≤ L) (h : JJn n q M) (hn : 0 ≤ n ∧ n ≤ 512) (hroom : kc + 1 ≤ 603072 ∧ ks + 6 ≤ 7215210)
    (kk : ∀ (q2 : Int → List Int) (M2 : Mem), JJn (n + 1) q2 M2 → Okl g b L xs 2243 (lv0 g b j) [] M2 (kc + 1) (ks + 6)) : Okl g b L xs 1023 (lv0 g b j) [] M kc ks := by
  refine l_aload_n 1 dL_law_1023 rfl rfl ?_
  refine l_arg (m0 := 0) (m5 := 5) 1 dL_law_1024 dL_law_1025 dL_law_1027 dL_law_1028 dL_law_1029 rfl rfl rfl (by decide) hj hL ?_
  refine l_arg (m0 := 0) (m5 := 5) 2 dL_law_1030 dL_law_1031 dL_law_1033 dL_law_1034 dL_law_1035 rfl rfl rfl (by decide) hj hL ?_
  refine l_aload_n 3 dL_law_1036 rfl rfl ?_
  refine l_callW (as := [rv g 0, iv (ax xs j 1), iv (ax xs j 2), rv g 497]) dL_law_1037 swL_174 (c_L_outputs g M (ax xs j 1) (ax xs j 2) h.cr (ax_rg xs j _) (ax_rg xs j _) h.dk hst) rfl rfl ⟨(Nat.le_of_ble_eq_true rfl), (Nat.le_of_ble_eq_true rfl)⟩ hroom (fun kw Mw hw => ?_)
  obtain ⟨hI, hs⟩ := s_outputs h hn (ax xs j 1) (ax xs j 2) (ax_rg xs j _) (ax_rg xs j _) hw
  refine l_istore (lv' := (6, iv kw) :: lv0 g b j) dL_law_1040 (by decide) rfl ?_
  refine l_aload_n 3 dL_law_1042 rfl rfl ?_
  refine l_arg (m0 := 1) (m5 := 6) 1 dL_law_1043 dL_law_1044 dL_law_1046 dL_law_1047 dL_law_1048 rfl rfl rfl (by decide) hj hL ?_
  refine l_arg (m0 := 1) (m5 := 6) 2 dL_law_1049 dL_law_1050 dL_law_1052 dL_law_1053 dL_law_1054 rfl rfl rfl (by decide) hj hL ?_
  refine l_callV (as := [iv (ax xs j 1), iv (ax xs j 2)]) (rest := []) dL_law_1055 vlL_176 k_468 (c_X9_outputs g Mw (ax xs j 1) (ax xs j 2) (h.rb.hi hI) (ax_rg xs j _) (ax_rg xs j _)) rfl rfl (Nat.le_of_ble_eq_true rfl) ⟨(Nat.le_of_ble_eq_true rfl), (Nat.le_of_ble_eq_true rfl)⟩ hroom (fun v M9 hv => ?_)
  obtain ⟨zr, rfl, hq⟩ := hv
  obtain ⟨h1, h2, q2, hJ⟩ := hs zr M9 hq
  have e9 : M9 497 0 = Mw 497 0 := by
    obtain ⟨cd, rfl, -⟩ := hq
    rfl
  exact l_fin dL_law_1058 dL_law_1060 dL_law_1061 dL_law_1064 dL_law_1066 dL_law_1071 dL_law_1073 dL_law_1076 dL_law_1077 dL_law_1078 dL_law_1079 dL_law_1081 dL_law_1082 dL_law_1083 dL_law_1088 (by decide) hroom h1 (fun hk => e9.trans (h2 hk)) (kk q2 M9 hJ)

set_option maxRecDepth 100000 in
theorem lc_output {g : GG} {b L : Nat} {xs : Nat → Int32} {j : Nat} {n : Int} {q : Int → List Int} {M : Mem} {kc ks : Nat} (hst : g.1.stackTraces = false) (hL : L ≤ 2048) (hj : 4 * j + 4 ≤ L) (h : JJn n q M) (hn : 0 ≤ n ∧ n ≤ 512) (hroom : kc + 1 ≤ 603072 ∧ ks + 6 ≤ 7215210)
    (kk : ∀ (q2 : Int → List Int) (M2 : Mem), JJn (n + 1) q2 M2 → Okl g b L xs 2243 (lv0 g b j) [] M2 (kc + 1) (ks + 6)) : Okl g b L xs 1091 (lv0 g b j) [] M kc ks := by
  refine l_aload_n 1 dL_law_1091 rfl rfl ?_
  refine l_arg (m0 := 0) (m5 := 5) 1 dL_law_1092 dL_law_1093 dL_law_1095 dL_law_1096 dL_law_1097 rfl rfl rfl (by decide) hj hL ?_
  refine l_arg (m0 := 0) (m5 := 5) 2 dL_law_1098 dL_law_1099 dL_law_1101 dL_law_1102 dL_law_1103 rfl rfl rfl (by decide) hj hL ?_
  refine l_arg (m0 := 0) (m5 := 5) 3 dL_law_1104 dL_law_1105 dL_law_1107 dL_law_1108 dL_law_1109 rfl rfl rfl (by decide) hj hL ?_
  refine l_aload_n 3 dL_law_1110 rfl rfl ?_
  refine l_callW (as := [rv g 0, iv (ax xs j 1), iv (ax xs j 2), iv (ax xs j 3), rv g 497]) dL_law_1111 swL_177 (c_L_output g M (ax xs j 1) (ax xs j 2) (ax xs j 3) h.cr (ax_rg xs j _) (ax_rg xs j _) (ax_rg xs j _) h.dk hst) rfl rfl ⟨(Nat.le_of_ble_eq_true rfl), (Nat.le_of_ble_eq_true rfl)⟩ hroom (fun kw Mw hw => ?_)
  obtain ⟨hI, hs⟩ := s_output h hn (ax xs j 1) (ax xs j 2) (ax xs j 3) (ax_rg xs j _) (ax_rg xs j _) (ax_rg xs j _) hw
  refine l_istore (lv' := (6, iv kw) :: lv0 g b j) dL_law_1114 (by decide) rfl ?_
  refine l_aload_n 3 dL_law_1116 rfl rfl ?_
  refine l_arg (m0 := 1) (m5 := 6) 1 dL_law_1117 dL_law_1118 dL_law_1120 dL_law_1121 dL_law_1122 rfl rfl rfl (by decide) hj hL ?_
  refine l_arg (m0 := 1) (m5 := 6) 2 dL_law_1123 dL_law_1124 dL_law_1126 dL_law_1127 dL_law_1128 rfl rfl rfl (by decide) hj hL ?_
  refine l_arg (m0 := 1) (m5 := 6) 3 dL_law_1129 dL_law_1130 dL_law_1132 dL_law_1133 dL_law_1134 rfl rfl rfl (by decide) hj hL ?_
  refine l_callV (as := [iv (ax xs j 1), iv (ax xs j 2), iv (ax xs j 3)]) (rest := []) dL_law_1135 vlL_179 k_468 (c_X9_output g Mw (ax xs j 1) (ax xs j 2) (ax xs j 3) (h.rb.hi hI) (ax_rg xs j _) (ax_rg xs j _) (ax_rg xs j _)) rfl rfl (Nat.le_of_ble_eq_true rfl) ⟨(Nat.le_of_ble_eq_true rfl), (Nat.le_of_ble_eq_true rfl)⟩ hroom (fun v M9 hv => ?_)
  obtain ⟨zr, rfl, hq⟩ := hv
  obtain ⟨h1, h2, q2, hJ⟩ := hs zr M9 hq
  have e9 : M9 497 0 = Mw 497 0 := by
    obtain ⟨cd, rfl, -⟩ := hq
    rfl
  exact l_fin dL_law_1138 dL_law_1140 dL_law_1141 dL_law_1144 dL_law_1146 dL_law_1151 dL_law_1153 dL_law_1156 dL_law_1157 dL_law_1158 dL_law_1159 dL_law_1161 dL_law_1162 dL_law_1163 dL_law_1168 (by decide) hroom h1 (fun hk => e9.trans (h2 hk)) (kk q2 M9 hJ)

set_option maxRecDepth 100000 in
theorem lc_kept {g : GG} {b L : Nat} {xs : Nat → Int32} {j : Nat} {n : Int} {q : Int → List Int} {M : Mem} {kc ks : Nat} (hst : g.1.stackTraces = false) (hL : L ≤ 2048) (hj : 4 * j + 4 ≤ L) (h : JJn n q M) (hn : 0 ≤ n ∧ n ≤ 512) (hroom : kc + 1 ≤ 603072 ∧ ks + 6 ≤ 7215210)
    (kk : ∀ (q2 : Int → List Int) (M2 : Mem), JJn (n + 1) q2 M2 → Okl g b L xs 2243 (lv0 g b j) [] M2 (kc + 1) (ks + 6)) : Okl g b L xs 1171 (lv0 g b j) [] M kc ks := by
  have hroom1 : kc ≤ 603072 ∧ ks ≤ 7215210 := ⟨by omega, by omega⟩
  refine l_aload_n 1 dL_law_1171 rfl rfl ?_
  refine l_callV (as := []) (rest := []) dL_law_1172 vlL_180 k_0 (c_X8_kept g M ) rfl rfl (Nat.le_of_ble_eq_true rfl) ⟨(Nat.le_of_ble_eq_true rfl), (Nat.le_of_ble_eq_true rfl)⟩ hroom1 (fun v Mw hv => ?_)
  obtain ⟨zc, rfl, rfl, hw⟩ := hv
  obtain ⟨hI, hs⟩ := s_kept h hn  ⟨rfl, hw⟩
  refine l_aload_n 2 dL_law_1175 rfl rfl ?_
  refine l_callV (as := []) (rest := [iv zc]) dL_law_1176 vlL_183 k_468 (c_X9_kept g _ (h.rb.hi hI)) rfl rfl (Nat.le_of_ble_eq_true rfl) ⟨(Nat.le_of_ble_eq_true rfl), (Nat.le_of_ble_eq_true rfl)⟩ hroom1 (fun v M9 hv => ?_)
  obtain ⟨zr, rfl, hq0, hq1⟩ := hv
  have hq := And.intro hq0 hq1
  obtain ⟨h1, q2, hJ⟩ := hs zr M9 hq
  subst h1
  exact l_icmp_eqT (tgt := 2243) dL_law_1179 (by decide) (l_room (by omega) (by omega) (kk q2 M9 hJ))

set_option maxRecDepth 100000 in
theorem lc_sharing {g : GG} {b L : Nat} {xs : Nat → Int32} {j : Nat} {n : Int} {q : Int → List Int} {M : Mem} {kc ks : Nat} (hst : g.1.stackTraces = false) (hL : L ≤ 2048) (hj : 4 * j + 4 ≤ L) (h : JJn n q M) (hn : 0 ≤ n ∧ n ≤ 512) (hroom : kc + 1 ≤ 603072 ∧ ks + 6 ≤ 7215210)
    (kk : ∀ (q2 : Int → List Int) (M2 : Mem), JJn (n + 1) q2 M2 → Okl g b L xs 2243 (lv0 g b j) [] M2 (kc + 1) (ks + 6)) : Okl g b L xs 1184 (lv0 g b j) [] M kc ks := by
  refine l_aload_n 1 dL_law_1184 rfl rfl ?_
  refine l_arg (m0 := 0) (m5 := 5) 1 dL_law_1185 dL_law_1186 dL_law_1188 dL_law_1189 dL_law_1190 rfl rfl rfl (by decide) hj hL ?_
  refine l_arg (m0 := 0) (m5 := 5) 2 dL_law_1191 dL_law_1192 dL_law_1194 dL_law_1195 dL_law_1196 rfl rfl rfl (by decide) hj hL ?_
  refine l_aload_n 3 dL_law_1197 rfl rfl ?_
  refine l_callW (as := [rv g 0, iv (ax xs j 1), iv (ax xs j 2), rv g 497]) dL_law_1198 swL_184 (c_L_sharing g M (ax xs j 1) (ax xs j 2) h.cr (ax_rg xs j _) (ax_rg xs j _) h.dk hst) rfl rfl ⟨(Nat.le_of_ble_eq_true rfl), (Nat.le_of_ble_eq_true rfl)⟩ hroom (fun kw Mw hw => ?_)
  obtain ⟨hI, hs⟩ := s_sharing h hn (ax xs j 1) (ax xs j 2) (ax_rg xs j _) (ax_rg xs j _) hw
  refine l_istore (lv' := (6, iv kw) :: lv0 g b j) dL_law_1201 (by decide) rfl ?_
  refine l_aload_n 3 dL_law_1203 rfl rfl ?_
  refine l_arg (m0 := 1) (m5 := 6) 1 dL_law_1204 dL_law_1205 dL_law_1207 dL_law_1208 dL_law_1209 rfl rfl rfl (by decide) hj hL ?_
  refine l_arg (m0 := 1) (m5 := 6) 2 dL_law_1210 dL_law_1211 dL_law_1213 dL_law_1214 dL_law_1215 rfl rfl rfl (by decide) hj hL ?_
  refine l_callV (as := [iv (ax xs j 1), iv (ax xs j 2)]) (rest := []) dL_law_1216 vlL_186 k_468 (c_X9_sharing g Mw (ax xs j 1) (ax xs j 2) (h.rb.hi hI) (ax_rg xs j _) (ax_rg xs j _)) rfl rfl (Nat.le_of_ble_eq_true rfl) ⟨(Nat.le_of_ble_eq_true rfl), (Nat.le_of_ble_eq_true rfl)⟩ hroom (fun v M9 hv => ?_)
  obtain ⟨zr, rfl, hq⟩ := hv
  obtain ⟨h1, h2, q2, hJ⟩ := hs zr M9 hq
  have e9 : M9 497 0 = Mw 497 0 := by
    obtain ⟨cd, rfl, -⟩ := hq
    rfl
  exact l_fin dL_law_1219 dL_law_1221 dL_law_1222 dL_law_1225 dL_law_1227 dL_law_1232 dL_law_1234 dL_law_1237 dL_law_1238 dL_law_1239 dL_law_1240 dL_law_1242 dL_law_1243 dL_law_1244 dL_law_1249 (by decide) hroom h1 (fun hk => e9.trans (h2 hk)) (kk q2 M9 hJ)

set_option maxRecDepth 100000 in
theorem lc_stock {g : GG} {b L : Nat} {xs : Nat → Int32} {j : Nat} {n : Int} {q : Int → List Int} {M : Mem} {kc ks : Nat} (hst : g.1.stackTraces = false) (hL : L ≤ 2048) (hj : 4 * j + 4 ≤ L) (h : JJn n q M) (hn : 0 ≤ n ∧ n ≤ 512) (hroom : kc + 1 ≤ 603072 ∧ ks + 6 ≤ 7215210)
    (kk : ∀ (q2 : Int → List Int) (M2 : Mem), JJn (n + 1) q2 M2 → Okl g b L xs 2243 (lv0 g b j) [] M2 (kc + 1) (ks + 6)) : Okl g b L xs 1252 (lv0 g b j) [] M kc ks := by
  refine l_aload_n 1 dL_law_1252 rfl rfl ?_
  refine l_arg (m0 := 0) (m5 := 5) 1 dL_law_1253 dL_law_1254 dL_law_1256 dL_law_1257 dL_law_1258 rfl rfl rfl (by decide) hj hL ?_
  refine l_arg (m0 := 0) (m5 := 5) 2 dL_law_1259 dL_law_1260 dL_law_1262 dL_law_1263 dL_law_1264 rfl rfl rfl (by decide) hj hL ?_
  refine l_aload_n 3 dL_law_1265 rfl rfl ?_
  refine l_callW (as := [rv g 0, iv (ax xs j 1), iv (ax xs j 2), rv g 497]) dL_law_1266 swL_187 (c_L_stock g M (ax xs j 1) (ax xs j 2) (bM M q) (ax_rg xs j _) (ax_rg xs j _) (h.bs9 hn) hst) rfl rfl ⟨(Nat.le_of_ble_eq_true rfl), (Nat.le_of_ble_eq_true rfl)⟩ hroom (fun kw Mw hw => ?_)
  obtain ⟨hI, hs⟩ := s_stock h hn (ax xs j 1) (ax xs j 2) (ax_rg xs j _) (ax_rg xs j _) hw
  refine l_istore (lv' := (6, iv kw) :: lv0 g b j) dL_law_1269 (by decide) rfl ?_
  refine l_aload_n 3 dL_law_1271 rfl rfl ?_
  refine l_arg (m0 := 1) (m5 := 6) 1 dL_law_1272 dL_law_1273 dL_law_1275 dL_law_1276 dL_law_1277 rfl rfl rfl (by decide) hj hL ?_
  refine l_arg (m0 := 1) (m5 := 6) 2 dL_law_1278 dL_law_1279 dL_law_1281 dL_law_1282 dL_law_1283 rfl rfl rfl (by decide) hj hL ?_
  refine l_callV (as := [iv (ax xs j 1), iv (ax xs j 2)]) (rest := []) dL_law_1284 vlL_189 k_468 (c_X9_stock g Mw (ax xs j 1) (ax xs j 2) (bM M q) (h.rb.hi hI) (ax_rg xs j _) (ax_rg xs j _) (h.rbs9 hn hI)) rfl rfl (Nat.le_of_ble_eq_true rfl) ⟨(Nat.le_of_ble_eq_true rfl), (Nat.le_of_ble_eq_true rfl)⟩ hroom (fun v M9 hv => ?_)
  obtain ⟨zr, rfl, hq⟩ := hv
  obtain ⟨h1, h2, q2, hJ⟩ := hs zr M9 hq
  have e9 : M9 497 0 = Mw 497 0 := by
    rcases hq with ⟨-, rfl⟩ | ⟨-, -, h9⟩
    · rfl
    · exact (h9.1 497 0 (fun w => by have := w.1; omega) (by omega) (by omega)).trans (by rw [up_o (by omega), up_o (by omega)])
  exact l_fin dL_law_1287 dL_law_1289 dL_law_1290 dL_law_1293 dL_law_1295 dL_law_1300 dL_law_1302 dL_law_1305 dL_law_1306 dL_law_1307 dL_law_1308 dL_law_1310 dL_law_1311 dL_law_1312 dL_law_1317 (by decide) hroom h1 (fun hk => e9.trans (h2 hk)) (kk q2 M9 hJ)

set_option maxRecDepth 100000 in
theorem lc_inStock {g : GG} {b L : Nat} {xs : Nat → Int32} {j : Nat} {n : Int} {q : Int → List Int} {M : Mem} {kc ks : Nat} (hst : g.1.stackTraces = false) (hL : L ≤ 2048) (hj : 4 * j + 4 ≤ L) (h : JJn n q M) (hn : 0 ≤ n ∧ n ≤ 512) (hroom : kc + 1 ≤ 603072 ∧ ks + 6 ≤ 7215210)
    (kk : ∀ (q2 : Int → List Int) (M2 : Mem), JJn (n + 1) q2 M2 → Okl g b L xs 2243 (lv0 g b j) [] M2 (kc + 1) (ks + 6)) : Okl g b L xs 1320 (lv0 g b j) [] M kc ks := by
  refine l_aload_n 1 dL_law_1320 rfl rfl ?_
  refine l_arg (m0 := 0) (m5 := 5) 1 dL_law_1321 dL_law_1322 dL_law_1324 dL_law_1325 dL_law_1326 rfl rfl rfl (by decide) hj hL ?_
  refine l_aload_n 3 dL_law_1327 rfl rfl ?_
  refine l_callW (as := [rv g 0, iv (ax xs j 1), rv g 497]) dL_law_1328 swL_190 (c_L_inStock g M (ax xs j 1) (ax_rg xs j _) hst) rfl rfl ⟨(Nat.le_of_ble_eq_true rfl), (Nat.le_of_ble_eq_true rfl)⟩ hroom (fun kw Mw hw => ?_)
  obtain ⟨hI, hs⟩ := s_inStock h hn (ax xs j 1) (ax_rg xs j _) hw
  refine l_istore (lv' := (6, iv kw) :: lv0 g b j) dL_law_1331 (by decide) rfl ?_
  refine l_aload_n 3 dL_law_1333 rfl rfl ?_
  refine l_arg (m0 := 1) (m5 := 6) 1 dL_law_1334 dL_law_1335 dL_law_1337 dL_law_1338 dL_law_1339 rfl rfl rfl (by decide) hj hL ?_
  refine l_callV (as := [iv (ax xs j 1)]) (rest := []) dL_law_1340 vlL_192 k_468 (c_X9_inStock g Mw (ax xs j 1) (h.rb.hi hI) (ax_rg xs j _)) rfl rfl (Nat.le_of_ble_eq_true rfl) ⟨(Nat.le_of_ble_eq_true rfl), (Nat.le_of_ble_eq_true rfl)⟩ hroom (fun v M9 hv => ?_)
  obtain ⟨zr, rfl, hq⟩ := hv
  obtain ⟨h1, h2, q2, hJ⟩ := hs zr M9 hq
  have e9 : M9 497 0 = Mw 497 0 := by
    obtain ⟨cd, rfl, -⟩ := hq
    rfl
  exact l_fin dL_law_1343 dL_law_1345 dL_law_1346 dL_law_1349 dL_law_1351 dL_law_1356 dL_law_1358 dL_law_1361 dL_law_1362 dL_law_1363 dL_law_1364 dL_law_1366 dL_law_1367 dL_law_1368 dL_law_1373 (by decide) hroom h1 (fun hk => e9.trans (h2 hk)) (kk q2 M9 hJ)

set_option maxRecDepth 100000 in
theorem lc_out {g : GG} {b L : Nat} {xs : Nat → Int32} {j : Nat} {n : Int} {q : Int → List Int} {M : Mem} {kc ks : Nat} (hst : g.1.stackTraces = false) (hL : L ≤ 2048) (hj : 4 * j + 4 ≤ L) (h : JJn n q M) (hn : 0 ≤ n ∧ n ≤ 512) (hroom : kc + 1 ≤ 603072 ∧ ks + 6 ≤ 7215210)
    (kk : ∀ (q2 : Int → List Int) (M2 : Mem), JJn (n + 1) q2 M2 → Okl g b L xs 2243 (lv0 g b j) [] M2 (kc + 1) (ks + 6)) : Okl g b L xs 1376 (lv0 g b j) [] M kc ks := by
  refine l_aload_n 1 dL_law_1376 rfl rfl ?_
  refine l_arg (m0 := 0) (m5 := 5) 1 dL_law_1377 dL_law_1378 dL_law_1380 dL_law_1381 dL_law_1382 rfl rfl rfl (by decide) hj hL ?_
  refine l_aload_n 3 dL_law_1383 rfl rfl ?_
  refine l_callW (as := [rv g 0, iv (ax xs j 1), rv g 497]) dL_law_1384 swL_193 (c_L_out g M (ax xs j 1) (ax_rg xs j _) hst) rfl rfl ⟨(Nat.le_of_ble_eq_true rfl), (Nat.le_of_ble_eq_true rfl)⟩ hroom (fun kw Mw hw => ?_)
  obtain ⟨hI, hs⟩ := s_out h hn (ax xs j 1) (ax_rg xs j _) hw
  refine l_istore (lv' := (6, iv kw) :: lv0 g b j) dL_law_1387 (by decide) rfl ?_
  refine l_aload_n 3 dL_law_1389 rfl rfl ?_
  refine l_arg (m0 := 1) (m5 := 6) 1 dL_law_1390 dL_law_1391 dL_law_1393 dL_law_1394 dL_law_1395 rfl rfl rfl (by decide) hj hL ?_
  refine l_callV (as := [iv (ax xs j 1)]) (rest := []) dL_law_1396 vlL_195 k_468 (c_X9_out g Mw (ax xs j 1) (h.rb.hi hI) (ax_rg xs j _)) rfl rfl (Nat.le_of_ble_eq_true rfl) ⟨(Nat.le_of_ble_eq_true rfl), (Nat.le_of_ble_eq_true rfl)⟩ hroom (fun v M9 hv => ?_)
  obtain ⟨zr, rfl, hq⟩ := hv
  obtain ⟨h1, h2, q2, hJ⟩ := hs zr M9 hq
  have e9 : M9 497 0 = Mw 497 0 := by
    obtain ⟨cd, rfl, -⟩ := hq
    rfl
  exact l_fin dL_law_1399 dL_law_1401 dL_law_1402 dL_law_1405 dL_law_1407 dL_law_1412 dL_law_1414 dL_law_1417 dL_law_1418 dL_law_1419 dL_law_1420 dL_law_1422 dL_law_1423 dL_law_1424 dL_law_1429 (by decide) hroom h1 (fun hk => e9.trans (h2 hk)) (kk q2 M9 hJ)

set_option maxRecDepth 100000 in
theorem lc_balloon {g : GG} {b L : Nat} {xs : Nat → Int32} {j : Nat} {n : Int} {q : Int → List Int} {M : Mem} {kc ks : Nat} (hst : g.1.stackTraces = false) (hL : L ≤ 2048) (hj : 4 * j + 4 ≤ L) (h : JJn n q M) (hn : 0 ≤ n ∧ n ≤ 512) (hroom : kc + 1 ≤ 603072 ∧ ks + 6 ≤ 7215210)
    (kk : ∀ (q2 : Int → List Int) (M2 : Mem), JJn (n + 1) q2 M2 → Okl g b L xs 2243 (lv0 g b j) [] M2 (kc + 1) (ks + 6)) : Okl g b L xs 1432 (lv0 g b j) [] M kc ks := by
  refine l_aload_n 1 dL_law_1432 rfl rfl ?_
  refine l_arg (m0 := 0) (m5 := 5) 1 dL_law_1433 dL_law_1434 dL_law_1436 dL_law_1437 dL_law_1438 rfl rfl rfl (by decide) hj hL ?_
  refine l_arg (m0 := 0) (m5 := 5) 2 dL_law_1439 dL_law_1440 dL_law_1442 dL_law_1443 dL_law_1444 rfl rfl rfl (by decide) hj hL ?_
  refine l_aload_n 3 dL_law_1445 rfl rfl ?_
  refine l_callW (as := [rv g 0, iv (ax xs j 1), iv (ax xs j 2), rv g 497]) dL_law_1446 swL_196 (c_L_balloon g M (ax xs j 1) (ax xs j 2) h.cr (ax_rg xs j _) (ax_rg xs j _) h.s18 hst) rfl rfl ⟨(Nat.le_of_ble_eq_true rfl), (Nat.le_of_ble_eq_true rfl)⟩ hroom (fun kw Mw hw => ?_)
  obtain ⟨hI, hs⟩ := s_balloon h hn (ax xs j 1) (ax xs j 2) (ax_rg xs j _) (ax_rg xs j _) hw
  refine l_istore (lv' := (6, iv kw) :: lv0 g b j) dL_law_1449 (by decide) rfl ?_
  refine l_aload_n 3 dL_law_1451 rfl rfl ?_
  refine l_arg (m0 := 1) (m5 := 6) 1 dL_law_1452 dL_law_1453 dL_law_1455 dL_law_1456 dL_law_1457 rfl rfl rfl (by decide) hj hL ?_
  refine l_arg (m0 := 1) (m5 := 6) 2 dL_law_1458 dL_law_1459 dL_law_1461 dL_law_1462 dL_law_1463 rfl rfl rfl (by decide) hj hL ?_
  refine l_callV (as := [iv (ax xs j 1), iv (ax xs j 2)]) (rest := []) dL_law_1464 vlL_198 k_468 (c_X9_balloon g Mw (ax xs j 1) (ax xs j 2) (h.rb.hi hI) (ax_rg xs j _) (ax_rg xs j _)) rfl rfl (Nat.le_of_ble_eq_true rfl) ⟨(Nat.le_of_ble_eq_true rfl), (Nat.le_of_ble_eq_true rfl)⟩ hroom (fun v M9 hv => ?_)
  obtain ⟨zr, rfl, hq⟩ := hv
  obtain ⟨h1, h2, q2, hJ⟩ := hs zr M9 hq
  have e9 : M9 497 0 = Mw 497 0 := by
    obtain ⟨cd, rfl, -⟩ := hq
    rfl
  exact l_fin dL_law_1467 dL_law_1469 dL_law_1470 dL_law_1473 dL_law_1475 dL_law_1480 dL_law_1482 dL_law_1485 dL_law_1486 dL_law_1487 dL_law_1488 dL_law_1490 dL_law_1491 dL_law_1492 dL_law_1497 (by decide) hroom h1 (fun hk => e9.trans (h2 hk)) (kk q2 M9 hJ)

set_option maxRecDepth 100000 in
theorem lc_waiting {g : GG} {b L : Nat} {xs : Nat → Int32} {j : Nat} {n : Int} {q : Int → List Int} {M : Mem} {kc ks : Nat} (hst : g.1.stackTraces = false) (hL : L ≤ 2048) (hj : 4 * j + 4 ≤ L) (h : JJn n q M) (hn : 0 ≤ n ∧ n ≤ 512) (hroom : kc + 1 ≤ 603072 ∧ ks + 6 ≤ 7215210)
    (kk : ∀ (q2 : Int → List Int) (M2 : Mem), JJn (n + 1) q2 M2 → Okl g b L xs 2243 (lv0 g b j) [] M2 (kc + 1) (ks + 6)) : Okl g b L xs 1500 (lv0 g b j) [] M kc ks := by
  refine l_aload_n 1 dL_law_1500 rfl rfl ?_
  refine l_arg (m0 := 0) (m5 := 5) 1 dL_law_1501 dL_law_1502 dL_law_1504 dL_law_1505 dL_law_1506 rfl rfl rfl (by decide) hj hL ?_
  refine l_arg (m0 := 0) (m5 := 5) 2 dL_law_1507 dL_law_1508 dL_law_1510 dL_law_1511 dL_law_1512 rfl rfl rfl (by decide) hj hL ?_
  refine l_aload_n 3 dL_law_1513 rfl rfl ?_
  refine l_callW (as := [rv g 0, iv (ax xs j 1), iv (ax xs j 2), rv g 497]) dL_law_1514 swL_199 (c_L_waiting g M (ax xs j 1) (ax xs j 2) q (ax_rg xs j _) (ax_rg xs j _) (h.ql hn) hst) rfl rfl ⟨(Nat.le_of_ble_eq_true rfl), (Nat.le_of_ble_eq_true rfl)⟩ hroom (fun kw Mw hw => ?_)
  obtain ⟨hI, hs⟩ := s_waiting h hn (ax xs j 1) (ax xs j 2) (ax_rg xs j _) (ax_rg xs j _) hw
  refine l_istore (lv' := (6, iv kw) :: lv0 g b j) dL_law_1517 (by decide) rfl ?_
  refine l_aload_n 3 dL_law_1519 rfl rfl ?_
  refine l_arg (m0 := 1) (m5 := 6) 1 dL_law_1520 dL_law_1521 dL_law_1523 dL_law_1524 dL_law_1525 rfl rfl rfl (by decide) hj hL ?_
  refine l_arg (m0 := 1) (m5 := 6) 2 dL_law_1526 dL_law_1527 dL_law_1529 dL_law_1530 dL_law_1531 rfl rfl rfl (by decide) hj hL ?_
  refine l_callV (as := [iv (ax xs j 1), iv (ax xs j 2)]) (rest := []) dL_law_1532 vlL_201 k_468 (c_X9_waiting g Mw (ax xs j 1) (ax xs j 2) q (h.rb.hi hI) (ax_rg xs j _) (ax_rg xs j _) (h.gb hn hI) (h.qbs hn hI)) rfl rfl (Nat.le_of_ble_eq_true rfl) ⟨(Nat.le_of_ble_eq_true rfl), (Nat.le_of_ble_eq_true rfl)⟩ hroom (fun v M9 hv => ?_)
  obtain ⟨zr, rfl, hq⟩ := hv
  obtain ⟨h1, h2, q2, hJ⟩ := hs zr M9 hq
  have e9 : M9 497 0 = Mw 497 0 := by
    rcases hq with ⟨-, rfl⟩ | ⟨-, ⟨-, rfl⟩ | ⟨-, -, rfl⟩⟩ <;> rfl
  exact l_fin dL_law_1535 dL_law_1537 dL_law_1538 dL_law_1541 dL_law_1543 dL_law_1548 dL_law_1550 dL_law_1553 dL_law_1554 dL_law_1555 dL_law_1556 dL_law_1558 dL_law_1559 dL_law_1560 dL_law_1565 (by decide) hroom h1 (fun hk => e9.trans (h2 hk)) (kk q2 M9 hJ)

set_option maxRecDepth 100000 in
theorem lc_calledBack {g : GG} {b L : Nat} {xs : Nat → Int32} {j : Nat} {n : Int} {q : Int → List Int} {M : Mem} {kc ks : Nat} (hst : g.1.stackTraces = false) (hL : L ≤ 2048) (hj : 4 * j + 4 ≤ L) (h : JJn n q M) (hn : 0 ≤ n ∧ n ≤ 512) (hroom : kc + 1 ≤ 603072 ∧ ks + 6 ≤ 7215210)
    (kk : ∀ (q2 : Int → List Int) (M2 : Mem), JJn (n + 1) q2 M2 → Okl g b L xs 2243 (lv0 g b j) [] M2 (kc + 1) (ks + 6)) : Okl g b L xs 1568 (lv0 g b j) [] M kc ks := by
  have hroom1 : kc ≤ 603072 ∧ ks ≤ 7215210 := ⟨by omega, by omega⟩
  refine l_aload_n 1 dL_law_1568 rfl rfl ?_
  refine l_callV (as := []) (rest := []) dL_law_1569 vlL_202 k_0 (c_X8_calledBack g M ) rfl rfl (Nat.le_of_ble_eq_true rfl) ⟨(Nat.le_of_ble_eq_true rfl), (Nat.le_of_ble_eq_true rfl)⟩ hroom1 (fun v Mw hv => ?_)
  obtain ⟨zc, rfl, rfl, hw⟩ := hv
  obtain ⟨hI, hs⟩ := s_calledBack h hn  ⟨rfl, hw⟩
  refine l_aload_n 2 dL_law_1572 rfl rfl ?_
  refine l_callV (as := []) (rest := [iv zc]) dL_law_1573 vlL_205 k_468 (c_X9_calledBack g _ (h.rb.hi hI)) rfl rfl (Nat.le_of_ble_eq_true rfl) ⟨(Nat.le_of_ble_eq_true rfl), (Nat.le_of_ble_eq_true rfl)⟩ hroom1 (fun v M9 hv => ?_)
  obtain ⟨zr, rfl, hq0, hq1⟩ := hv
  have hq := And.intro hq0 hq1
  obtain ⟨h1, q2, hJ⟩ := hs zr M9 hq
  subst h1
  exact l_icmp_eqT (tgt := 2243) dL_law_1576 (by decide) (l_room (by omega) (by omega) (kk q2 M9 hJ))

set_option maxRecDepth 100000 in
theorem lc_freeze {g : GG} {b L : Nat} {xs : Nat → Int32} {j : Nat} {n : Int} {q : Int → List Int} {M : Mem} {kc ks : Nat} (hst : g.1.stackTraces = false) (hL : L ≤ 2048) (hj : 4 * j + 4 ≤ L) (h : JJn n q M) (hn : 0 ≤ n ∧ n ≤ 512) (hroom : kc + 1 ≤ 603072 ∧ ks + 6 ≤ 7215210)
    (kk : ∀ (q2 : Int → List Int) (M2 : Mem), JJn (n + 1) q2 M2 → Okl g b L xs 2243 (lv0 g b j) [] M2 (kc + 1) (ks + 6)) : Okl g b L xs 1581 (lv0 g b j) [] M kc ks := by
  refine l_aload_n 1 dL_law_1581 rfl rfl ?_
  refine l_arg (m0 := 0) (m5 := 5) 1 dL_law_1582 dL_law_1583 dL_law_1585 dL_law_1586 dL_law_1587 rfl rfl rfl (by decide) hj hL ?_
  refine l_aload_n 3 dL_law_1588 rfl rfl ?_
  refine l_callW (as := [rv g 0, iv (ax xs j 1), rv g 497]) dL_law_1589 swL_206 (c_L_freeze g M (ax xs j 1) h.cr (ax_rg xs j _) hst) rfl rfl ⟨(Nat.le_of_ble_eq_true rfl), (Nat.le_of_ble_eq_true rfl)⟩ hroom (fun kw Mw hw => ?_)
  obtain ⟨hI, hs⟩ := s_freeze h hn (ax xs j 1) (ax_rg xs j _) hw
  refine l_istore (lv' := (6, iv kw) :: lv0 g b j) dL_law_1592 (by decide) rfl ?_
  refine l_aload_n 3 dL_law_1594 rfl rfl ?_
  refine l_arg (m0 := 1) (m5 := 6) 1 dL_law_1595 dL_law_1596 dL_law_1598 dL_law_1599 dL_law_1600 rfl rfl rfl (by decide) hj hL ?_
  refine l_callV (as := [iv (ax xs j 1)]) (rest := []) dL_law_1601 vlL_208 k_468 (c_X9_freeze g Mw (ax xs j 1) (h.rb.hi hI) (ax_rg xs j _)) rfl rfl (Nat.le_of_ble_eq_true rfl) ⟨(Nat.le_of_ble_eq_true rfl), (Nat.le_of_ble_eq_true rfl)⟩ hroom (fun v M9 hv => ?_)
  obtain ⟨zr, rfl, hq⟩ := hv
  obtain ⟨h1, h2, q2, hJ⟩ := hs zr M9 hq
  have e9 : M9 497 0 = Mw 497 0 := by
    rcases hq with ⟨-, rfl⟩ | ⟨-, rfl⟩ | ⟨-, -, rfl⟩ <;> rfl
  exact l_fin dL_law_1604 dL_law_1606 dL_law_1607 dL_law_1610 dL_law_1612 dL_law_1617 dL_law_1619 dL_law_1622 dL_law_1623 dL_law_1624 dL_law_1625 dL_law_1627 dL_law_1628 dL_law_1629 dL_law_1634 (by decide) hroom h1 (fun hk => e9.trans (h2 hk)) (kk q2 M9 hJ)

set_option maxRecDepth 100000 in
theorem lc_pending {g : GG} {b L : Nat} {xs : Nat → Int32} {j : Nat} {n : Int} {q : Int → List Int} {M : Mem} {kc ks : Nat} (hst : g.1.stackTraces = false) (hL : L ≤ 2048) (hj : 4 * j + 4 ≤ L) (h : JJn n q M) (hn : 0 ≤ n ∧ n ≤ 512) (hroom : kc + 1 ≤ 603072 ∧ ks + 6 ≤ 7215210)
    (kk : ∀ (q2 : Int → List Int) (M2 : Mem), JJn (n + 1) q2 M2 → Okl g b L xs 2243 (lv0 g b j) [] M2 (kc + 1) (ks + 6)) : Okl g b L xs 1637 (lv0 g b j) [] M kc ks := by
  refine l_aload_n 1 dL_law_1637 rfl rfl ?_
  refine l_arg (m0 := 0) (m5 := 5) 1 dL_law_1638 dL_law_1639 dL_law_1641 dL_law_1642 dL_law_1643 rfl rfl rfl (by decide) hj hL ?_
  refine l_arg (m0 := 0) (m5 := 5) 2 dL_law_1644 dL_law_1645 dL_law_1647 dL_law_1648 dL_law_1649 rfl rfl rfl (by decide) hj hL ?_
  refine l_aload_n 3 dL_law_1650 rfl rfl ?_
  refine l_callW (as := [rv g 0, iv (ax xs j 1), iv (ax xs j 2), rv g 497]) dL_law_1651 swL_209 (c_L_pending g M (ax xs j 1) (ax xs j 2) h.cr (ax_rg xs j _) (ax_rg xs j _) hst) rfl rfl ⟨(Nat.le_of_ble_eq_true rfl), (Nat.le_of_ble_eq_true rfl)⟩ hroom (fun kw Mw hw => ?_)
  obtain ⟨hI, hs⟩ := s_pending h hn (ax xs j 1) (ax xs j 2) (ax_rg xs j _) (ax_rg xs j _) hw
  refine l_istore (lv' := (6, iv kw) :: lv0 g b j) dL_law_1654 (by decide) rfl ?_
  refine l_aload_n 3 dL_law_1656 rfl rfl ?_
  refine l_arg (m0 := 1) (m5 := 6) 1 dL_law_1657 dL_law_1658 dL_law_1660 dL_law_1661 dL_law_1662 rfl rfl rfl (by decide) hj hL ?_
  refine l_arg (m0 := 1) (m5 := 6) 2 dL_law_1663 dL_law_1664 dL_law_1666 dL_law_1667 dL_law_1668 rfl rfl rfl (by decide) hj hL ?_
  refine l_callV (as := [iv (ax xs j 1), iv (ax xs j 2)]) (rest := []) dL_law_1669 vlL_211 k_468 (c_X9_pending g Mw (ax xs j 1) (ax xs j 2) (h.rb.hi hI) (ax_rg xs j _) (ax_rg xs j _)) rfl rfl (Nat.le_of_ble_eq_true rfl) ⟨(Nat.le_of_ble_eq_true rfl), (Nat.le_of_ble_eq_true rfl)⟩ hroom (fun v M9 hv => ?_)
  obtain ⟨zr, rfl, hq⟩ := hv
  obtain ⟨h1, h2, q2, hJ⟩ := hs zr M9 hq
  have e9 : M9 497 0 = Mw 497 0 := by
    obtain ⟨cd, rfl, -⟩ := hq
    rfl
  exact l_fin dL_law_1672 dL_law_1674 dL_law_1675 dL_law_1678 dL_law_1680 dL_law_1685 dL_law_1687 dL_law_1690 dL_law_1691 dL_law_1692 dL_law_1693 dL_law_1695 dL_law_1696 dL_law_1697 dL_law_1702 (by decide) hroom h1 (fun hk => e9.trans (h2 hk)) (kk q2 M9 hJ)

set_option maxRecDepth 100000 in
theorem lc_open {g : GG} {b L : Nat} {xs : Nat → Int32} {j : Nat} {n : Int} {q : Int → List Int} {M : Mem} {kc ks : Nat} (hst : g.1.stackTraces = false) (hL : L ≤ 2048) (hj : 4 * j + 4 ≤ L) (h : JJn n q M) (hn : 0 ≤ n ∧ n ≤ 512) (hroom : kc + 1 ≤ 603072 ∧ ks + 6 ≤ 7215210)
    (kk : ∀ (q2 : Int → List Int) (M2 : Mem), JJn (n + 1) q2 M2 → Okl g b L xs 2243 (lv0 g b j) [] M2 (kc + 1) (ks + 6)) : Okl g b L xs 1705 (lv0 g b j) [] M kc ks := by
  refine l_aload_n 1 dL_law_1705 rfl rfl ?_
  refine l_aload_n 3 dL_law_1706 rfl rfl ?_
  refine l_callW (as := [rv g 0, rv g 497]) dL_law_1707 swL_212 (c_L_open g M h.cr h.ordr hst) rfl rfl ⟨(Nat.le_of_ble_eq_true rfl), (Nat.le_of_ble_eq_true rfl)⟩ hroom (fun kw Mw hw => ?_)
  obtain ⟨hI, hs⟩ := s_open h hn  hw
  refine l_istore (lv' := (6, iv kw) :: lv0 g b j) dL_law_1710 (by decide) rfl ?_
  refine l_aload_n 3 dL_law_1712 rfl rfl ?_
  refine l_callV (as := []) (rest := []) dL_law_1713 vlL_214 k_468 (c_X9_open g Mw (h.rb.hi hI)) rfl rfl (Nat.le_of_ble_eq_true rfl) ⟨(Nat.le_of_ble_eq_true rfl), (Nat.le_of_ble_eq_true rfl)⟩ hroom (fun v M9 hv => ?_)
  obtain ⟨zr, rfl, hq⟩ := hv
  obtain ⟨h1, h2, q2, hJ⟩ := hs zr M9 hq
  have e9 : M9 497 0 = Mw 497 0 := by
    rcases hq with ⟨-, rfl⟩ | ⟨-, -, h9, -⟩
    · rfl
    · exact h9 497 0 (by omega) (by omega)
  exact l_fin dL_law_1716 dL_law_1718 dL_law_1719 dL_law_1722 dL_law_1724 dL_law_1729 dL_law_1731 dL_law_1734 dL_law_1735 dL_law_1736 dL_law_1737 dL_law_1739 dL_law_1740 dL_law_1741 dL_law_1746 (by decide) hroom h1 (fun hk => e9.trans (h2 hk)) (kk q2 M9 hJ)

set_option maxRecDepth 100000 in
theorem lc_solved {g : GG} {b L : Nat} {xs : Nat → Int32} {j : Nat} {n : Int} {q : Int → List Int} {M : Mem} {kc ks : Nat} (hst : g.1.stackTraces = false) (hL : L ≤ 2048) (hj : 4 * j + 4 ≤ L) (h : JJn n q M) (hn : 0 ≤ n ∧ n ≤ 512) (hroom : kc + 1 ≤ 603072 ∧ ks + 6 ≤ 7215210)
    (kk : ∀ (q2 : Int → List Int) (M2 : Mem), JJn (n + 1) q2 M2 → Okl g b L xs 2243 (lv0 g b j) [] M2 (kc + 1) (ks + 6)) : Okl g b L xs 1749 (lv0 g b j) [] M kc ks := by
  refine l_aload_n 1 dL_law_1749 rfl rfl ?_
  refine l_arg (m0 := 0) (m5 := 5) 1 dL_law_1750 dL_law_1751 dL_law_1753 dL_law_1754 dL_law_1755 rfl rfl rfl (by decide) hj hL ?_
  refine l_arg (m0 := 0) (m5 := 5) 2 dL_law_1756 dL_law_1757 dL_law_1759 dL_law_1760 dL_law_1761 rfl rfl rfl (by decide) hj hL ?_
  refine l_bool (t1 := 1769) (t2 := 1770) dL_law_1762 dL_law_1765 dL_law_1766 dL_law_1769 (by decide) (by decide) rfl (ax_rg xs j _) ?_
  refine l_aload_n 3 dL_law_1770 rfl rfl ?_
  refine l_callW (as := [rv g 0, iv (ax xs j 1), iv (bz (ax xs j 2)), rv g 497]) dL_law_1771 swL_215 (c_L_solved g M (ax xs j 1) (bz (ax xs j 2)) h.cr (ax_rg xs j _) (bz_01 _) hst) rfl rfl ⟨(Nat.le_of_ble_eq_true rfl), (Nat.le_of_ble_eq_true rfl)⟩ hroom (fun kw Mw hw => ?_)
  obtain ⟨hI, hs⟩ := s_solved h hn (ax xs j 1) (bz (ax xs j 2)) (ax_rg xs j _) (bz_01 _) hw
  refine l_istore (lv' := (6, iv kw) :: lv0 g b j) dL_law_1774 (by decide) rfl ?_
  refine l_aload_n 3 dL_law_1776 rfl rfl ?_
  refine l_arg (m0 := 1) (m5 := 6) 1 dL_law_1777 dL_law_1778 dL_law_1780 dL_law_1781 dL_law_1782 rfl rfl rfl (by decide) hj hL ?_
  refine l_arg (m0 := 1) (m5 := 6) 2 dL_law_1783 dL_law_1784 dL_law_1786 dL_law_1787 dL_law_1788 rfl rfl rfl (by decide) hj hL ?_
  refine l_bool (t1 := 1796) (t2 := 1797) dL_law_1789 dL_law_1792 dL_law_1793 dL_law_1796 (by decide) (by decide) rfl (ax_rg xs j _) ?_
  refine l_callV (as := [iv (ax xs j 1), iv (bz (ax xs j 2))]) (rest := []) dL_law_1797 vlL_217 k_468 (c_X9_solved g Mw (ax xs j 1) (bz (ax xs j 2)) (h.rb.hi hI) (ax_rg xs j _) (bz_01 _)) rfl rfl (Nat.le_of_ble_eq_true rfl) ⟨(Nat.le_of_ble_eq_true rfl), (Nat.le_of_ble_eq_true rfl)⟩ hroom (fun v M9 hv => ?_)
  obtain ⟨zr, rfl, hq⟩ := hv
  obtain ⟨h1, h2, q2, hJ⟩ := hs zr M9 hq
  have e9 : M9 497 0 = Mw 497 0 := by
    obtain ⟨cd, rfl, -⟩ := hq
    rfl
  exact l_fin dL_law_1800 dL_law_1802 dL_law_1803 dL_law_1806 dL_law_1808 dL_law_1813 dL_law_1815 dL_law_1818 dL_law_1819 dL_law_1820 dL_law_1821 dL_law_1823 dL_law_1824 dL_law_1825 dL_law_1830 (by decide) hroom h1 (fun hk => e9.trans (h2 hk)) (kk q2 M9 hJ)

set_option maxRecDepth 100000 in
theorem lc_penalty {g : GG} {b L : Nat} {xs : Nat → Int32} {j : Nat} {n : Int} {q : Int → List Int} {M : Mem} {kc ks : Nat} (hst : g.1.stackTraces = false) (hL : L ≤ 2048) (hj : 4 * j + 4 ≤ L) (h : JJn n q M) (hn : 0 ≤ n ∧ n ≤ 512) (hroom : kc + 1 ≤ 603072 ∧ ks + 6 ≤ 7215210)
    (kk : ∀ (q2 : Int → List Int) (M2 : Mem), JJn (n + 1) q2 M2 → Okl g b L xs 2243 (lv0 g b j) [] M2 (kc + 1) (ks + 6)) : Okl g b L xs 1833 (lv0 g b j) [] M kc ks := by
  refine l_aload_n 1 dL_law_1833 rfl rfl ?_
  refine l_arg (m0 := 0) (m5 := 5) 1 dL_law_1834 dL_law_1835 dL_law_1837 dL_law_1838 dL_law_1839 rfl rfl rfl (by decide) hj hL ?_
  refine l_arg (m0 := 0) (m5 := 5) 2 dL_law_1840 dL_law_1841 dL_law_1843 dL_law_1844 dL_law_1845 rfl rfl rfl (by decide) hj hL ?_
  refine l_bool (t1 := 1853) (t2 := 1854) dL_law_1846 dL_law_1849 dL_law_1850 dL_law_1853 (by decide) (by decide) rfl (ax_rg xs j _) ?_
  refine l_aload_n 3 dL_law_1854 rfl rfl ?_
  refine l_callW (as := [rv g 0, iv (ax xs j 1), iv (bz (ax xs j 2)), rv g 497]) dL_law_1855 swL_218 (c_L_penalty g M (ax xs j 1) (bz (ax xs j 2)) h.cr (ax_rg xs j _) (bz_01 _) hst) rfl rfl ⟨(Nat.le_of_ble_eq_true rfl), (Nat.le_of_ble_eq_true rfl)⟩ hroom (fun kw Mw hw => ?_)
  obtain ⟨hI, hs⟩ := s_penalty h hn (ax xs j 1) (bz (ax xs j 2)) (ax_rg xs j _) (bz_01 _) hw
  refine l_istore (lv' := (6, iv kw) :: lv0 g b j) dL_law_1858 (by decide) rfl ?_
  refine l_aload_n 3 dL_law_1860 rfl rfl ?_
  refine l_arg (m0 := 1) (m5 := 6) 1 dL_law_1861 dL_law_1862 dL_law_1864 dL_law_1865 dL_law_1866 rfl rfl rfl (by decide) hj hL ?_
  refine l_arg (m0 := 1) (m5 := 6) 2 dL_law_1867 dL_law_1868 dL_law_1870 dL_law_1871 dL_law_1872 rfl rfl rfl (by decide) hj hL ?_
  refine l_bool (t1 := 1880) (t2 := 1881) dL_law_1873 dL_law_1876 dL_law_1877 dL_law_1880 (by decide) (by decide) rfl (ax_rg xs j _) ?_
  refine l_callV (as := [iv (ax xs j 1), iv (bz (ax xs j 2))]) (rest := []) dL_law_1881 vlL_220 k_468 (c_X9_penalty g Mw (ax xs j 1) (bz (ax xs j 2)) (h.rb.hi hI) (ax_rg xs j _) (bz_01 _)) rfl rfl (Nat.le_of_ble_eq_true rfl) ⟨(Nat.le_of_ble_eq_true rfl), (Nat.le_of_ble_eq_true rfl)⟩ hroom (fun v M9 hv => ?_)
  obtain ⟨zr, rfl, hq⟩ := hv
  obtain ⟨h1, h2, q2, hJ⟩ := hs zr M9 hq
  have e9 : M9 497 0 = Mw 497 0 := by
    obtain ⟨cd, rfl, -⟩ := hq
    rfl
  exact l_fin dL_law_1884 dL_law_1886 dL_law_1887 dL_law_1890 dL_law_1892 dL_law_1897 dL_law_1899 dL_law_1902 dL_law_1903 dL_law_1904 dL_law_1905 dL_law_1907 dL_law_1908 dL_law_1909 dL_law_1914 (by decide) hroom h1 (fun hk => e9.trans (h2 hk)) (kk q2 M9 hJ)

set_option maxRecDepth 100000 in
theorem lc_rank {g : GG} {b L : Nat} {xs : Nat → Int32} {j : Nat} {n : Int} {q : Int → List Int} {M : Mem} {kc ks : Nat} (hst : g.1.stackTraces = false) (hL : L ≤ 2048) (hj : 4 * j + 4 ≤ L) (h : JJn n q M) (hn : 0 ≤ n ∧ n ≤ 512) (hroom : kc + 1 ≤ 603072 ∧ ks + 6 ≤ 7215210)
    (kk : ∀ (q2 : Int → List Int) (M2 : Mem), JJn (n + 1) q2 M2 → Okl g b L xs 2243 (lv0 g b j) [] M2 (kc + 1) (ks + 6)) : Okl g b L xs 1917 (lv0 g b j) [] M kc ks := by
  refine l_aload_n 1 dL_law_1917 rfl rfl ?_
  refine l_arg (m0 := 0) (m5 := 5) 1 dL_law_1918 dL_law_1919 dL_law_1921 dL_law_1922 dL_law_1923 rfl rfl rfl (by decide) hj hL ?_
  refine l_arg (m0 := 0) (m5 := 5) 2 dL_law_1924 dL_law_1925 dL_law_1927 dL_law_1928 dL_law_1929 rfl rfl rfl (by decide) hj hL ?_
  refine l_bool (t1 := 1937) (t2 := 1938) dL_law_1930 dL_law_1933 dL_law_1934 dL_law_1937 (by decide) (by decide) rfl (ax_rg xs j _) ?_
  refine l_aload_n 3 dL_law_1938 rfl rfl ?_
  refine l_callW (as := [rv g 0, iv (ax xs j 1), iv (bz (ax xs j 2)), rv g 497]) dL_law_1939 swL_221 (c_L_rank g M (ax xs j 1) (bz (ax xs j 2)) h.cr (ax_rg xs j _) (bz_01 _) (h.bb (bz_01 _)) hst) rfl rfl ⟨(Nat.le_of_ble_eq_true rfl), (Nat.le_of_ble_eq_true rfl)⟩ hroom (fun kw Mw hw => ?_)
  obtain ⟨hI, hs⟩ := s_rank h hn (ax xs j 1) (bz (ax xs j 2)) (ax_rg xs j _) (bz_01 _) hw
  refine l_istore (lv' := (6, iv kw) :: lv0 g b j) dL_law_1942 (by decide) rfl ?_
  refine l_aload_n 3 dL_law_1944 rfl rfl ?_
  refine l_arg (m0 := 1) (m5 := 6) 1 dL_law_1945 dL_law_1946 dL_law_1948 dL_law_1949 dL_law_1950 rfl rfl rfl (by decide) hj hL ?_
  refine l_arg (m0 := 1) (m5 := 6) 2 dL_law_1951 dL_law_1952 dL_law_1954 dL_law_1955 dL_law_1956 rfl rfl rfl (by decide) hj hL ?_
  refine l_bool (t1 := 1964) (t2 := 1965) dL_law_1957 dL_law_1960 dL_law_1961 dL_law_1964 (by decide) (by decide) rfl (ax_rg xs j _) ?_
  refine l_callV (as := [iv (ax xs j 1), iv (bz (ax xs j 2))]) (rest := []) dL_law_1965 vlL_223 k_468 (c_X9_rank g Mw (ax xs j 1) (bz (ax xs j 2)) (h.rb.hi hI) (ax_rg xs j _) (bz_01 _)) rfl rfl (Nat.le_of_ble_eq_true rfl) ⟨(Nat.le_of_ble_eq_true rfl), (Nat.le_of_ble_eq_true rfl)⟩ hroom (fun v M9 hv => ?_)
  obtain ⟨zr, rfl, hq⟩ := hv
  obtain ⟨h1, h2, q2, hJ⟩ := hs zr M9 hq
  have e9 : M9 497 0 = Mw 497 0 := by
    obtain ⟨cd, rfl, -⟩ := hq
    rfl
  exact l_fin dL_law_1968 dL_law_1970 dL_law_1971 dL_law_1974 dL_law_1976 dL_law_1981 dL_law_1983 dL_law_1986 dL_law_1987 dL_law_1988 dL_law_1989 dL_law_1991 dL_law_1992 dL_law_1993 dL_law_1998 (by decide) hroom h1 (fun hk => e9.trans (h2 hk)) (kk q2 M9 hJ)

set_option maxRecDepth 100000 in
theorem lc_ranked {g : GG} {b L : Nat} {xs : Nat → Int32} {j : Nat} {n : Int} {q : Int → List Int} {M : Mem} {kc ks : Nat} (hst : g.1.stackTraces = false) (hL : L ≤ 2048) (hj : 4 * j + 4 ≤ L) (h : JJn n q M) (hn : 0 ≤ n ∧ n ≤ 512) (hroom : kc + 1 ≤ 603072 ∧ ks + 6 ≤ 7215210)
    (kk : ∀ (q2 : Int → List Int) (M2 : Mem), JJn (n + 1) q2 M2 → Okl g b L xs 2243 (lv0 g b j) [] M2 (kc + 1) (ks + 6)) : Okl g b L xs 2001 (lv0 g b j) [] M kc ks := by
  refine l_aload_n 1 dL_law_2001 rfl rfl ?_
  refine l_arg (m0 := 0) (m5 := 5) 1 dL_law_2002 dL_law_2003 dL_law_2005 dL_law_2006 dL_law_2007 rfl rfl rfl (by decide) hj hL ?_
  refine l_arg (m0 := 0) (m5 := 5) 2 dL_law_2008 dL_law_2009 dL_law_2011 dL_law_2012 dL_law_2013 rfl rfl rfl (by decide) hj hL ?_
  refine l_bool (t1 := 2021) (t2 := 2022) dL_law_2014 dL_law_2017 dL_law_2018 dL_law_2021 (by decide) (by decide) rfl (ax_rg xs j _) ?_
  refine l_aload_n 3 dL_law_2022 rfl rfl ?_
  refine l_callW (as := [rv g 0, iv (ax xs j 1), iv (bz (ax xs j 2)), rv g 497]) dL_law_2023 swL_224 (c_L_ranked g M (ax xs j 1) (bz (ax xs j 2)) h.cr (ax_rg xs j _) (bz_01 _) hst) rfl rfl ⟨(Nat.le_of_ble_eq_true rfl), (Nat.le_of_ble_eq_true rfl)⟩ hroom (fun kw Mw hw => ?_)
  obtain ⟨hI, hs⟩ := s_ranked h hn (ax xs j 1) (bz (ax xs j 2)) (ax_rg xs j _) (bz_01 _) hw
  refine l_istore (lv' := (6, iv kw) :: lv0 g b j) dL_law_2026 (by decide) rfl ?_
  refine l_aload_n 3 dL_law_2028 rfl rfl ?_
  refine l_arg (m0 := 1) (m5 := 6) 1 dL_law_2029 dL_law_2030 dL_law_2032 dL_law_2033 dL_law_2034 rfl rfl rfl (by decide) hj hL ?_
  refine l_arg (m0 := 1) (m5 := 6) 2 dL_law_2035 dL_law_2036 dL_law_2038 dL_law_2039 dL_law_2040 rfl rfl rfl (by decide) hj hL ?_
  refine l_bool (t1 := 2048) (t2 := 2049) dL_law_2041 dL_law_2044 dL_law_2045 dL_law_2048 (by decide) (by decide) rfl (ax_rg xs j _) ?_
  refine l_callV (as := [iv (ax xs j 1), iv (bz (ax xs j 2))]) (rest := []) dL_law_2049 vlL_226 k_468 (c_X9_ranked g Mw (ax xs j 1) (bz (ax xs j 2)) (h.rb.hi hI) (ax_rg xs j _) (bz_01 _)) rfl rfl (Nat.le_of_ble_eq_true rfl) ⟨(Nat.le_of_ble_eq_true rfl), (Nat.le_of_ble_eq_true rfl)⟩ hroom (fun v M9 hv => ?_)
  obtain ⟨zr, rfl, hq⟩ := hv
  obtain ⟨h1, h2, q2, hJ⟩ := hs zr M9 hq
  have e9 : M9 497 0 = Mw 497 0 := by
    obtain ⟨cd, rfl, -⟩ := hq
    rfl
  exact l_fin dL_law_2052 dL_law_2054 dL_law_2055 dL_law_2058 dL_law_2060 dL_law_2065 dL_law_2067 dL_law_2070 dL_law_2071 dL_law_2072 dL_law_2073 dL_law_2075 dL_law_2076 dL_law_2077 dL_law_2082 (by decide) hroom h1 (fun hk => e9.trans (h2 hk)) (kk q2 M9 hJ)

set_option maxRecDepth 100000 in
theorem lc_acceptedShare {g : GG} {b L : Nat} {xs : Nat → Int32} {j : Nat} {n : Int} {q : Int → List Int} {M : Mem} {kc ks : Nat} (hst : g.1.stackTraces = false) (hL : L ≤ 2048) (hj : 4 * j + 4 ≤ L) (h : JJn n q M) (hn : 0 ≤ n ∧ n ≤ 512) (hroom : kc + 1 ≤ 603072 ∧ ks + 6 ≤ 7215210)
    (kk : ∀ (q2 : Int → List Int) (M2 : Mem), JJn (n + 1) q2 M2 → Okl g b L xs 2243 (lv0 g b j) [] M2 (kc + 1) (ks + 6)) : Okl g b L xs 2085 (lv0 g b j) [] M kc ks := by
  refine l_aload_n 1 dL_law_2085 rfl rfl ?_
  refine l_aload 4 dL_law_2086 rfl  ?_
  refine l_callW (as := [rv g 0, rv g 498]) dL_law_2088 swL_227 (c_L_acceptedShare g M h.cr hst) rfl rfl ⟨(Nat.le_of_ble_eq_true rfl), (Nat.le_of_ble_eq_true rfl)⟩ hroom (fun kw Mw hw => ?_)
  obtain ⟨hI, hs⟩ := s_acceptedShare h hn  hw
  refine l_istore (lv' := (6, iv kw) :: lv0 g b j) dL_law_2091 (by decide) rfl ?_
  refine l_aload_n 3 dL_law_2093 rfl rfl ?_
  refine l_callV (as := []) (rest := []) dL_law_2094 vlL_230 k_468 (c_X9_acceptedShare g Mw (h.rb.hi hI)) rfl rfl (Nat.le_of_ble_eq_true rfl) ⟨(Nat.le_of_ble_eq_true rfl), (Nat.le_of_ble_eq_true rfl)⟩ hroom (fun v M9 hv => ?_)
  obtain ⟨zr, rfl, hq⟩ := hv
  obtain ⟨h1, h2, q2, hJ⟩ := hs zr M9 hq
  have e9 : M9 498 0 = Mw 498 0 := by
    rcases hq with ⟨-, rfl⟩ | ⟨-, -, rfl⟩ <;> rfl
  have fin : Okl g b L xs 2243 ((7, .float zr) :: (6, iv kw) :: lv0 g b j) [] M9 (kc + 1) (ks + 6) := l_sub [2, 3, 4, 5, 6, 7] rfl (kk q2 M9 hJ)
  refine l_fstore (lv' := (7, .float zr) :: (6, iv kw) :: lv0 g b j) dL_law_2097 (by decide) rfl ?_
  refine l_aload_n 4 dL_law_2099 rfl rfl ?_
  refine l_callV (as := []) (rest := []) dL_law_2100 vlL_128 k_468 (c_X9_thrown g M9) rfl rfl (Nat.le_of_ble_eq_true rfl) ⟨(Nat.le_of_ble_eq_true rfl), (Nat.le_of_ble_eq_true rfl)⟩ hroom (fun v M8 hv => ?_)
  obtain ⟨z, rfl, rfl, hz⟩ := hv
  rw [h1] at hz
  subst hz
  refine l_iload 1 dL_law_2103 rfl ?_
  refine l_icmp_eqT (tgt := 2110) dL_law_2105 (by decide) ?_
  refine l_iload 1 dL_law_2110 rfl ?_
  refine l_rg (o := 468) (k := 0) (by omega) (fun hr => ?_)
  rw [h1] at hr
  refine l_if_ne (tgt := 2148) dL_law_2112 (by decide) hr (fun hk => l_goto (tgt := 2243) dL_law_2148 (by decide) fin) (fun hk => ?_)
  obtain ⟨h3, h4⟩ := h2 hk
  refine l_aload 6 dL_law_2115 rfl ?_
  refine l_iconst 0 dL_law_2117 rfl ?_
  refine l_daload dL_law_2118 ?_
  rw [e9, h3, Int.toNat_natCast, UInt64.ofNat_toNat]
  refine l_fload 0 dL_law_2119 rfl ?_
  refine l_f2d dL_law_2121 (f2d_ok h4) ?_
  refine l_dcmpT dL_law_2122 (dcmp_0 (f2d_ok h4)) ?_
  exact l_if_eq0 (tgt := 2148) dL_law_2123 (by decide) (l_goto (tgt := 2243) dL_law_2148 (by decide) fin)

set_option maxRecDepth 100000 in
theorem lc_meanSteps {g : GG} {b L : Nat} {xs : Nat → Int32} {j : Nat} {n : Int} {q : Int → List Int} {M : Mem} {kc ks : Nat} (hst : g.1.stackTraces = false) (hL : L ≤ 2048) (hj : 4 * j + 4 ≤ L) (h : JJn n q M) (hn : 0 ≤ n ∧ n ≤ 512) (hroom : kc + 1 ≤ 603072 ∧ ks + 6 ≤ 7215210)
    (kk : ∀ (q2 : Int → List Int) (M2 : Mem), JJn (n + 1) q2 M2 → Okl g b L xs 2243 (lv0 g b j) [] M2 (kc + 1) (ks + 6)) : Okl g b L xs 2151 (lv0 g b j) [] M kc ks := by
  refine l_aload_n 1 dL_law_2151 rfl rfl ?_
  refine l_aload 4 dL_law_2152 rfl  ?_
  refine l_callW (as := [rv g 0, rv g 498]) dL_law_2154 swL_231 (c_L_meanSteps g M h.cr hst) rfl rfl ⟨(Nat.le_of_ble_eq_true rfl), (Nat.le_of_ble_eq_true rfl)⟩ hroom (fun kw Mw hw => ?_)
  obtain ⟨hI, hs⟩ := s_meanSteps h hn  hw
  refine l_istore (lv' := (6, iv kw) :: lv0 g b j) dL_law_2157 (by decide) rfl ?_
  refine l_aload_n 3 dL_law_2159 rfl rfl ?_
  refine l_callV (as := []) (rest := []) dL_law_2160 vlL_233 k_468 (c_X9_meanSteps g Mw (h.rb.hi hI)) rfl rfl (Nat.le_of_ble_eq_true rfl) ⟨(Nat.le_of_ble_eq_true rfl), (Nat.le_of_ble_eq_true rfl)⟩ hroom (fun v M9 hv => ?_)
  obtain ⟨zr, rfl, hq⟩ := hv
  obtain ⟨h1, h2, q2, hJ⟩ := hs zr M9 hq
  have e9 : M9 498 0 = Mw 498 0 := by
    rcases hq with ⟨-, rfl⟩ | ⟨-, -, rfl⟩ <;> rfl
  have fin : Okl g b L xs 2243 ((7, .double zr) :: (6, iv kw) :: lv0 g b j) [] M9 (kc + 1) (ks + 6) := l_sub [2, 3, 4, 5, 6, 7] rfl (kk q2 M9 hJ)
  refine l_dstore (lv' := (7, .double zr) :: (6, iv kw) :: lv0 g b j) dL_law_2163 (by decide) rfl ?_
  refine l_aload_n 4 dL_law_2165 rfl rfl ?_
  refine l_callV (as := []) (rest := []) dL_law_2166 vlL_128 k_468 (c_X9_thrown g M9) rfl rfl (Nat.le_of_ble_eq_true rfl) ⟨(Nat.le_of_ble_eq_true rfl), (Nat.le_of_ble_eq_true rfl)⟩ hroom (fun v M8 hv => ?_)
  obtain ⟨z, rfl, rfl, hz⟩ := hv
  rw [h1] at hz
  subst hz
  refine l_iload 1 dL_law_2169 rfl ?_
  refine l_icmp_eqT (tgt := 2176) dL_law_2171 (by decide) ?_
  refine l_iload 1 dL_law_2176 rfl ?_
  refine l_rg (o := 468) (k := 0) (by omega) (fun hr => ?_)
  rw [h1] at hr
  refine l_if_ne (tgt := 2213) dL_law_2178 (by decide) hr (fun hk => l_goto (tgt := 2243) dL_law_2213 (by decide) fin) (fun hk => ?_)
  obtain ⟨h3, h4⟩ := h2 hk
  refine l_aload 6 dL_law_2181 rfl ?_
  refine l_iconst 0 dL_law_2183 rfl ?_
  refine l_daload dL_law_2184 ?_
  rw [e9, h3, Int.toNat_natCast, UInt64.ofNat_toNat]
  refine l_dload 0 dL_law_2185 rfl ?_
  refine l_dcmpT dL_law_2187 (dcmp_0 h4) ?_
  exact l_if_eq0 (tgt := 2213) dL_law_2188 (by decide) (l_goto (tgt := 2243) dL_law_2213 (by decide) fin)

set_option maxRecDepth 100000 in
theorem lc_checksum {g : GG} {b L : Nat} {xs : Nat → Int32} {j : Nat} {n : Int} {q : Int → List Int} {M : Mem} {kc ks : Nat} (hst : g.1.stackTraces = false) (hL : L ≤ 2048) (hj : 4 * j + 4 ≤ L) (h : JJn n q M) (hn : 0 ≤ n ∧ n ≤ 512) (hroom : kc + 1 ≤ 603072 ∧ ks + 6 ≤ 7215210)
    (kk : ∀ (q2 : Int → List Int) (M2 : Mem), JJn (n + 1) q2 M2 → Okl g b L xs 2243 (lv0 g b j) [] M2 (kc + 1) (ks + 6)) : Okl g b L xs 2216 (lv0 g b j) [] M kc ks := by
  have hroom1 : kc ≤ 603072 ∧ ks ≤ 7215210 := ⟨by omega, by omega⟩
  refine l_aload_n 1 dL_law_2216 rfl rfl ?_
  refine l_callV (as := []) (rest := []) dL_law_2217 vlL_234 k_0 (c_X8_checksum g M h.cr h.dk) rfl rfl (Nat.le_of_ble_eq_true rfl) ⟨(Nat.le_of_ble_eq_true rfl), (Nat.le_of_ble_eq_true rfl)⟩ hroom1 (fun v Mw hv => ?_)
  obtain ⟨zc, rfl, rfl, hw⟩ := hv
  obtain ⟨hI, hs⟩ := s_checksum h hn  ⟨rfl, hw⟩
  refine l_aload_n 2 dL_law_2220 rfl rfl ?_
  refine l_callV (as := []) (rest := [.long zc]) dL_law_2221 vlL_238 k_468 (c_X9_checksum g _ (h.rb.hi hI)) rfl rfl (Nat.le_of_ble_eq_true rfl) ⟨(Nat.le_of_ble_eq_true rfl), (Nat.le_of_ble_eq_true rfl)⟩ hroom1 (fun v M9 hv => ?_)
  obtain ⟨zr, rfl, hq0, hq1⟩ := hv
  have hq := And.intro hq0 hq1
  obtain ⟨h1, q2, hJ⟩ := hs zr M9 hq
  subst h1
  refine l_lcmpT dL_law_2224 ?_
  exact l_if_eq0 (tgt := 2243) dL_law_2225 (by decide) (l_room (by omega) (by omega) (kk q2 M9 hJ))

set_option maxRecDepth 100000 in
theorem lc_isTrue {g : GG} {b L : Nat} {xs : Nat → Int32} {j : Nat} {n : Int} {q : Int → List Int} {M : Mem} {kc ks : Nat} (hst : g.1.stackTraces = false) (hL : L ≤ 2048) (hj : 4 * j + 4 ≤ L) (h : JJn n q M) (hn : 0 ≤ n ∧ n ≤ 512) (hroom : kc + 1 ≤ 603072 ∧ ks + 6 ≤ 7215210)
    (kk : ∀ (q2 : Int → List Int) (M2 : Mem), JJn (n + 1) q2 M2 → Okl g b L xs 2243 (lv0 g b j) [] M2 (kc + 1) (ks + 6)) : Okl g b L xs 2230 (lv0 g b j) [] M kc ks := by
  have hroom1 : kc ≤ 603072 ∧ ks ≤ 7215210 := ⟨by omega, by omega⟩
  refine l_aload_n 1 dL_law_2230 rfl rfl ?_
  refine l_callV (as := []) (rest := []) dL_law_2231 vlL_239 k_0 (c_X8_isTrue g M h.cr h.b0 h.b1 h.ea h.nsl h.dk) rfl rfl (Nat.le_of_ble_eq_true rfl) ⟨(Nat.le_of_ble_eq_true rfl), (Nat.le_of_ble_eq_true rfl)⟩ hroom1 (fun v Mw hv => ?_)
  obtain ⟨zc, rfl, hw⟩ := hv
  obtain ⟨hI, hs⟩ := s_isTrue h hn  hw
  refine l_aload_n 2 dL_law_2234 rfl rfl ?_
  refine l_callV (as := []) (rest := [iv zc]) dL_law_2235 vlL_243 k_468 (c_X9_isTrue g Mw (h.rb.hi hI)) rfl rfl (Nat.le_of_ble_eq_true rfl) ⟨(Nat.le_of_ble_eq_true rfl), (Nat.le_of_ble_eq_true rfl)⟩ hroom1 (fun v M9 hv => ?_)
  obtain ⟨zr, rfl, hq0, hq1⟩ := hv
  have hq := And.intro hq0 hq1
  obtain ⟨h1, q2, hJ⟩ := hs zr M9 hq
  subst h1
  exact l_icmp_eqT (tgt := 2243) dL_law_2238 (by decide) (l_room (by omega) (by omega) (kk q2 M9 hJ))
