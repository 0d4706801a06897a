/-! THE LAW, 8: its cases -/
section LAWB
variable {G : mj_G} {A : mj_M}
theorem lw_key {n : Nat} {X : Int → Int} {i : Int} {Q : mj_Q} {o5 o6 : Option mj_V} (hJ : JE X A) (hi : 0 ≤ i ∧ i + 6 ≤ X (-1)) (hX : X (-1) ≤ 3072) (htail : ∀ A2 o5 o6, JE X A2 → mj_X G n_L_law Q A2 (20 * n) (4767 * n) 2565 [some (mR (some 50)), some (mR (some 100)), some (mR (some 200)), some (mR (some 140)), some (mI i), o5, o6] []) : mj_X G n_L_law Q A (20 * (n + 1)) (4767 * (n + 1)) 188 [some (mR (some 50)), some (mR (some 100)), some (mR (some 200)), some (mR (some 140)), some (mI i), o5, o6] [] := by
  obtain ⟨C, h⟩ := hJ
  have hs := h.s
  have hx := h.x
  have hlen : gI A 50 (-1) = X (-1) := by rw [hx]
  have hns := h.j.m.g.ns
  refine mx_R fun hRA => ?_
  refine mx_less (kc' := 20 * n + 17) (ks' := 4767 * n + 667) (by omega) (by omega) ?_
  refine mx_R fun hR => ?_
  refine mx_aload_n 1 d_L_law_188 rfl rfl ?_
  refine mx_aload_n 3 d_L_law_189 rfl rfl ?_
  refine mx_callSH (kc := 20 * n) (ks := 4767 * n) (N := n_L_key) (as := [_, _]) d_L_law_190 s_L_128 ⟨Nat.le_of_ble_eq_true rfl, Nat.le_of_ble_eq_true rfl⟩ rfl (mj_wt_8 (Nat.le_of_ble_eq_true rfl)) (js_key h ) (fun r A1 hr => ?_) (fun E A_x h => h.elim)
  obtain ⟨kk, rfl, hkk, ⟨hs1, hx1, hm1⟩, hM⟩ := hr
  have hlen1 : gI A1 50 (-1) = X (-1) := by rw [hx1]
  have hA1x : gI A1 50 = gI A 50 := hx1.trans hx.symm
  refine mx_R fun hR => ?_
  refine mx_istore 5 d_L_law_193 (Nat.le_of_ble_eq_true rfl) ?_
  refine mx_aload_n 2 d_L_law_195 rfl rfl ?_
  refine mx_callV (kc := 20*n) (ks := 4767*n) (N := n_M_key) (as := []) (ci := 7) d_L_law_196 s_L_133 ⟨Nat.le_of_ble_eq_true rfl, Nat.le_of_ble_eq_true rfl⟩ rfl (mj_wt_8 (Nat.le_of_ble_eq_true rfl)) (hm1) ⟨_, rfl, rfl⟩ (hM) (fun r_196 A_196 h_196 => ?_) (fun E_196 A_x h_196 => ?_)
  rotate_left
  · exact h_196.elim
  obtain ⟨v, rfl, h0, hout, C2, h2⟩ := h_196
  refine mx_R fun hR_1 => ?_
  refine mx_istore 6 d_L_law_199 (Nat.le_of_ble_eq_true rfl) ?_
  refine mx_aload_n 2 d_L_law_201 rfl rfl ?_
  refine mx_callV (kc := 20*n) (ks := 4767*n) (N := n_M_thrown) (as := []) (ci := 7) d_L_law_202 s_L_134 ⟨Nat.le_of_ble_eq_true rfl, Nat.le_of_ble_eq_true rfl⟩ rfl (mj_wt_8 (Nat.le_of_ble_eq_true rfl)) (h2.j.m.M.o) ⟨_, rfl, rfl⟩ (cm_thrown h2.j.m.M) (fun r_202 A_202 h_202 => ?_) (fun E_202 A_x h_202 => ?_)
  rotate_left
  · exact h_202.elim
  obtain ⟨rfl, hA_202⟩ := h_202
  obtain rfl := hA_202.symm
  clear hA_202
  refine mx_R fun hR_2 => ?_
  refine mx_iload 5 d_L_law_205 rfl ?_
  refine mx_icmp_eq 212 d_L_law_207 rfl (by first | assumption | exact hR_2 _ _ | exact hR_1 _ _ | exact hR _ _ | exact r32_mk (by omega) (by omega)) (by first | assumption | exact hR_2 _ _ | exact hR_1 _ _ | exact hR _ _ | exact r32_mk (by omega) (by omega)) (fun c_207 => ?_) (fun c_207 => ?_)
  · refine mx_iload 5 d_L_law_212 rfl ?_
    refine mx_if_ne 229 d_L_law_214 rfl (by first | assumption | exact hR_2 _ _ | exact hR_1 _ _ | exact hR _ _ | exact r32_mk (by omega) (by omega)) (fun c_214 => ?_) (fun c_214 => ?_)
    · refine mx_goto 2565 d_L_law_229 rfl ?_
      exact htail _ _ _ ⟨C2, h2⟩
    · refine mx_aload_n 3 d_L_law_217 rfl rfl ?_
      refine mx_iconst d_L_law_218 ?_
      refine mx_lald d_L_law_219 (h2.j.y.o) (by omega) (by omega) ?_
      refine mx_iload 6 d_L_law_220 rfl ?_
      have hnr := nr_r v
      refine mx_nrm ?_
      refine mx_i2l d_L_law_222 (by first | assumption | exact hR_2 _ _ | exact hR_1 _ _ | exact hR _ _ | exact r32_mk (by omega) (by omega)) ?_
      refine mx_lcmp d_L_law_223 (by first | assumption | exact hR_2 _ _ | exact hR_1 _ _ | exact hR _ _ | exact r32_mk (by omega) (by omega)) (by first | assumption | exact hR_2 _ _ | exact hR_1 _ _ | exact hR _ _ | exact r32_mk (by omega) (by omega)) ?_
      refine mx_if_eq 229 d_L_law_224 rfl (by first | assumption | exact hR_2 _ _ | exact hR_1 _ _ | exact hR _ _ | exact r32_mk (by omega) (by omega)) (fun c_224 => ?_) (fun c_224 => ?_)
      · refine mx_goto 2565 d_L_law_229 rfl ?_
        exact htail _ _ _ ⟨C2, h2⟩
      · exact absurd (by rw [hout (by assumption), if_neg (Int.lt_irrefl _), if_pos rfl]) c_224
  · exact absurd h0 (by assumption)
theorem lw_between {n : Nat} {X : Int → Int} {i : Int} {Q : mj_Q} {o5 o6 : Option mj_V} (hJ : JE X A) (hi : 0 ≤ i ∧ i + 6 ≤ X (-1)) (hX : X (-1) ≤ 3072) (htail : ∀ A2 o5 o6, JE X A2 → mj_X G n_L_law Q A2 (20 * n) (4767 * n) 2565 [some (mR (some 50)), some (mR (some 100)), some (mR (some 200)), some (mR (some 140)), some (mI i), o5, o6] []) : mj_X G n_L_law Q A (20 * (n + 1)) (4767 * (n + 1)) 232 [some (mR (some 50)), some (mR (some 100)), some (mR (some 200)), some (mR (some 140)), some (mI i), o5, o6] [] := by
  obtain ⟨C, h⟩ := hJ
  have hs := h.s
  have hx := h.x
  have hlen : gI A 50 (-1) = X (-1) := by rw [hx]
  have hns := h.j.m.g.ns
  refine mx_R fun hRA => ?_
  refine mx_less (kc' := 20 * n + 20) (ks' := 4767 * n + 685) (by omega) (by omega) ?_
  refine mx_R fun hR => ?_
  refine mx_aload_n 1 d_L_law_232 rfl rfl ?_
  refine mx_aload_n 0 d_L_law_233 rfl rfl ?_
  refine mx_iload 4 d_L_law_234 rfl ?_
  refine mx_iconst d_L_law_236 ?_
  refine mx_iadd d_L_law_237 ?_
  refine mx_sald d_L_law_238 hs (by omega) (by rw [hlen]; omega) ?_
  refine mx_aload_n 0 d_L_law_239 rfl rfl ?_
  refine mx_iload 4 d_L_law_240 rfl ?_
  refine mx_iconst d_L_law_242 ?_
  refine mx_iadd d_L_law_243 ?_
  refine mx_sald d_L_law_244 hs (by omega) (by rw [hlen]; omega) ?_
  refine mx_aload_n 0 d_L_law_245 rfl rfl ?_
  refine mx_iload 4 d_L_law_246 rfl ?_
  refine mx_iconst d_L_law_248 ?_
  refine mx_iadd d_L_law_249 ?_
  refine mx_sald d_L_law_250 hs (by omega) (by rw [hlen]; omega) ?_
  refine mx_aload_n 0 d_L_law_251 rfl rfl ?_
  refine mx_iload 4 d_L_law_252 rfl ?_
  refine mx_iconst d_L_law_254 ?_
  refine mx_iadd d_L_law_255 ?_
  refine mx_sald d_L_law_256 hs (by omega) (by rw [hlen]; omega) ?_
  refine mx_aload_n 3 d_L_law_257 rfl rfl ?_
  refine mx_callSH (kc := 20 * n) (ks := 4767 * n) (N := n_L_between) (as := [_, _, _, _, _, _]) d_L_law_258 s_L_137 ⟨Nat.le_of_ble_eq_true rfl, Nat.le_of_ble_eq_true rfl⟩ rfl (mj_wt_8 (Nat.le_of_ble_eq_true rfl)) (js_between h (hRA 50 _) (hRA 50 _) (hRA 50 _) (hRA 50 _)) (fun r A1 hr => ?_) (fun E A_x h => h.elim)
  obtain ⟨kk, rfl, hkk, ⟨hs1, hx1, hm1⟩, hM⟩ := hr
  have hlen1 : gI A1 50 (-1) = X (-1) := by rw [hx1]
  have hA1x : gI A1 50 = gI A 50 := hx1.trans hx.symm
  refine mx_R fun hR => ?_
  refine mx_istore 5 d_L_law_261 (Nat.le_of_ble_eq_true rfl) ?_
  refine mx_aload_n 2 d_L_law_263 rfl rfl ?_
  refine mx_aload_n 0 d_L_law_264 rfl rfl ?_
  refine mx_iload 4 d_L_law_265 rfl ?_
  refine mx_iconst d_L_law_267 ?_
  refine mx_iadd d_L_law_268 ?_
  refine mx_sald d_L_law_269 hs1 (by omega) (by rw [hlen1]; omega) ?_
  rw [hA1x]
  refine mx_aload_n 0 d_L_law_270 rfl rfl ?_
  refine mx_iload 4 d_L_law_271 rfl ?_
  refine mx_iconst d_L_law_273 ?_
  refine mx_iadd d_L_law_274 ?_
  refine mx_sald d_L_law_275 hs1 (by omega) (by rw [hlen1]; omega) ?_
  rw [hA1x]
  refine mx_aload_n 0 d_L_law_276 rfl rfl ?_
  refine mx_iload 4 d_L_law_277 rfl ?_
  refine mx_iconst d_L_law_279 ?_
  refine mx_iadd d_L_law_280 ?_
  refine mx_sald d_L_law_281 hs1 (by omega) (by rw [hlen1]; omega) ?_
  rw [hA1x]
  refine mx_aload_n 0 d_L_law_282 rfl rfl ?_
  refine mx_iload 4 d_L_law_283 rfl ?_
  refine mx_iconst d_L_law_285 ?_
  refine mx_iadd d_L_law_286 ?_
  refine mx_sald d_L_law_287 hs1 (by omega) (by rw [hlen1]; omega) ?_
  rw [hA1x]
  refine mx_callV (kc := 20*n) (ks := 4767*n) (N := n_M_between) (as := [_, _, _, _]) (ci := 7) d_L_law_288 s_L_140 ⟨Nat.le_of_ble_eq_true rfl, Nat.le_of_ble_eq_true rfl⟩ rfl (mj_wt_8 (Nat.le_of_ble_eq_true rfl)) (hm1) ⟨_, rfl, rfl⟩ (hM) (fun r_288 A_288 h_288 => ?_) (fun E_288 A_x h_288 => ?_)
  rotate_left
  · exact h_288.elim
  obtain ⟨v, rfl, h0, hout, C2, h2⟩ := h_288
  refine mx_R fun hR_1 => ?_
  refine mx_istore 6 d_L_law_291 (Nat.le_of_ble_eq_true rfl) ?_
  refine mx_aload_n 2 d_L_law_293 rfl rfl ?_
  refine mx_callV (kc := 20*n) (ks := 4767*n) (N := n_M_thrown) (as := []) (ci := 7) d_L_law_294 s_L_134 ⟨Nat.le_of_ble_eq_true rfl, Nat.le_of_ble_eq_true rfl⟩ rfl (mj_wt_8 (Nat.le_of_ble_eq_true rfl)) (h2.j.m.M.o) ⟨_, rfl, rfl⟩ (cm_thrown h2.j.m.M) (fun r_294 A_294 h_294 => ?_) (fun E_294 A_x h_294 => ?_)
  rotate_left
  · exact h_294.elim
  obtain ⟨rfl, hA_294⟩ := h_294
  obtain rfl := hA_294.symm
  clear hA_294
  refine mx_R fun hR_2 => ?_
  refine mx_iload 5 d_L_law_297 rfl ?_
  refine mx_icmp_eq 304 d_L_law_299 rfl (by first | assumption | exact hR_2 _ _ | exact hR_1 _ _ | exact hR _ _ | exact r32_mk (by omega) (by omega)) (by first | assumption | exact hR_2 _ _ | exact hR_1 _ _ | exact hR _ _ | exact r32_mk (by omega) (by omega)) (fun c_299 => ?_) (fun c_299 => ?_)
  · refine mx_iload 5 d_L_law_304 rfl ?_
    refine mx_if_ne 321 d_L_law_306 rfl (by first | assumption | exact hR_2 _ _ | exact hR_1 _ _ | exact hR _ _ | exact r32_mk (by omega) (by omega)) (fun c_306 => ?_) (fun c_306 => ?_)
    · refine mx_goto 2565 d_L_law_321 rfl ?_
      exact htail _ _ _ ⟨C2, h2⟩
    · refine mx_aload_n 3 d_L_law_309 rfl rfl ?_
      refine mx_iconst d_L_law_310 ?_
      refine mx_lald d_L_law_311 (h2.j.y.o) (by omega) (by omega) ?_
      refine mx_iload 6 d_L_law_312 rfl ?_
      have hnr := nr_r v
      refine mx_nrm ?_
      refine mx_i2l d_L_law_314 (by first | assumption | exact hR_2 _ _ | exact hR_1 _ _ | exact hR _ _ | exact r32_mk (by omega) (by omega)) ?_
      refine mx_lcmp d_L_law_315 (by first | assumption | exact hR_2 _ _ | exact hR_1 _ _ | exact hR _ _ | exact r32_mk (by omega) (by omega)) (by first | assumption | exact hR_2 _ _ | exact hR_1 _ _ | exact hR _ _ | exact r32_mk (by omega) (by omega)) ?_
      refine mx_if_eq 321 d_L_law_316 rfl (by first | assumption | exact hR_2 _ _ | exact hR_1 _ _ | exact hR _ _ | exact r32_mk (by omega) (by omega)) (fun c_316 => ?_) (fun c_316 => ?_)
      · refine mx_goto 2565 d_L_law_321 rfl ?_
        exact htail _ _ _ ⟨C2, h2⟩
      · exact absurd (by rw [hout (by assumption), if_neg (Int.lt_irrefl _), if_pos rfl]) c_316
  · exact absurd h0 (by assumption)
theorem lw_stroke {n : Nat} {X : Int → Int} {i : Int} {Q : mj_Q} {o5 o6 : Option mj_V} (hJ : JE X A) (hi : 0 ≤ i ∧ i + 6 ≤ X (-1)) (hX : X (-1) ≤ 3072) (htail : ∀ A2 o5 o6, JE X A2 → mj_X G n_L_law Q A2 (20 * n) (4767 * n) 2565 [some (mR (some 50)), some (mR (some 100)), some (mR (some 200)), some (mR (some 140)), some (mI i), o5, o6] []) : mj_X G n_L_law Q A (20 * (n + 1)) (4767 * (n + 1)) 324 [some (mR (some 50)), some (mR (some 100)), some (mR (some 200)), some (mR (some 140)), some (mI i), o5, o6] [] := by
  obtain ⟨C, h⟩ := hJ
  have hs := h.s
  have hx := h.x
  have hlen : gI A 50 (-1) = X (-1) := by rw [hx]
  have hns := h.j.m.g.ns
  refine mx_R fun hRA => ?_
  refine mx_less (kc' := 20 * n + 5) (ks' := 4767 * n + 30) (by omega) (by omega) ?_
  refine mx_R fun hR => ?_
  refine mx_aload_n 1 d_L_law_324 rfl rfl ?_
  refine mx_aload_n 0 d_L_law_325 rfl rfl ?_
  refine mx_iload 4 d_L_law_326 rfl ?_
  refine mx_iconst d_L_law_328 ?_
  refine mx_iadd d_L_law_329 ?_
  refine mx_sald d_L_law_330 hs (by omega) (by rw [hlen]; omega) ?_
  refine mx_aload_n 0 d_L_law_331 rfl rfl ?_
  refine mx_iload 4 d_L_law_332 rfl ?_
  refine mx_iconst d_L_law_334 ?_
  refine mx_iadd d_L_law_335 ?_
  refine mx_sald d_L_law_336 hs (by omega) (by rw [hlen]; omega) ?_
  refine mx_aload_n 0 d_L_law_337 rfl rfl ?_
  refine mx_iload 4 d_L_law_338 rfl ?_
  refine mx_iconst d_L_law_340 ?_
  refine mx_iadd d_L_law_341 ?_
  refine mx_sald d_L_law_342 hs (by omega) (by rw [hlen]; omega) ?_
  refine mx_aload_n 0 d_L_law_343 rfl rfl ?_
  refine mx_iload 4 d_L_law_344 rfl ?_
  refine mx_iconst d_L_law_346 ?_
  refine mx_iadd d_L_law_347 ?_
  refine mx_sald d_L_law_348 hs (by omega) (by rw [hlen]; omega) ?_
  refine mx_aload_n 0 d_L_law_349 rfl rfl ?_
  refine mx_iload 4 d_L_law_350 rfl ?_
  refine mx_iconst d_L_law_352 ?_
  refine mx_iadd d_L_law_353 ?_
  refine mx_sald d_L_law_354 hs (by omega) (by rw [hlen]; omega) ?_
  refine mx_aload_n 3 d_L_law_355 rfl rfl ?_
  refine mx_callSH (kc := 20 * n) (ks := 4767 * n) (N := n_L_stroke) (as := [_, _, _, _, _, _, _]) d_L_law_356 s_L_141 ⟨Nat.le_of_ble_eq_true rfl, Nat.le_of_ble_eq_true rfl⟩ rfl (mj_wt_8 (Nat.le_of_ble_eq_true rfl)) (js_stroke h (hRA 50 _) (hRA 50 _) (hRA 50 _) (hRA 50 _) (hRA 50 _)) (fun r A1 hr => ?_) (fun E A_x h => h.elim)
  obtain ⟨kk, rfl, hkk, ⟨hs1, hx1, hm1⟩, hM⟩ := hr
  have hlen1 : gI A1 50 (-1) = X (-1) := by rw [hx1]
  have hA1x : gI A1 50 = gI A 50 := hx1.trans hx.symm
  refine mx_R fun hR => ?_
  refine mx_istore 5 d_L_law_359 (Nat.le_of_ble_eq_true rfl) ?_
  refine mx_aload_n 2 d_L_law_361 rfl rfl ?_
  refine mx_aload_n 0 d_L_law_362 rfl rfl ?_
  refine mx_iload 4 d_L_law_363 rfl ?_
  refine mx_iconst d_L_law_365 ?_
  refine mx_iadd d_L_law_366 ?_
  refine mx_sald d_L_law_367 hs1 (by omega) (by rw [hlen1]; omega) ?_
  rw [hA1x]
  refine mx_aload_n 0 d_L_law_368 rfl rfl ?_
  refine mx_iload 4 d_L_law_369 rfl ?_
  refine mx_iconst d_L_law_371 ?_
  refine mx_iadd d_L_law_372 ?_
  refine mx_sald d_L_law_373 hs1 (by omega) (by rw [hlen1]; omega) ?_
  rw [hA1x]
  refine mx_aload_n 0 d_L_law_374 rfl rfl ?_
  refine mx_iload 4 d_L_law_375 rfl ?_
  refine mx_iconst d_L_law_377 ?_
  refine mx_iadd d_L_law_378 ?_
  refine mx_sald d_L_law_379 hs1 (by omega) (by rw [hlen1]; omega) ?_
  rw [hA1x]
  refine mx_aload_n 0 d_L_law_380 rfl rfl ?_
  refine mx_iload 4 d_L_law_381 rfl ?_
  refine mx_iconst d_L_law_383 ?_
  refine mx_iadd d_L_law_384 ?_
  refine mx_sald d_L_law_385 hs1 (by omega) (by rw [hlen1]; omega) ?_
  rw [hA1x]
  refine mx_aload_n 0 d_L_law_386 rfl rfl ?_
  refine mx_iload 4 d_L_law_387 rfl ?_
  refine mx_iconst d_L_law_389 ?_
  refine mx_iadd d_L_law_390 ?_
  refine mx_sald d_L_law_391 hs1 (by omega) (by rw [hlen1]; omega) ?_
  rw [hA1x]
  refine mx_callV (kc := 20*n) (ks := 4767*n) (N := n_M_stroke) (as := [_, _, _, _, _]) (ci := 7) d_L_law_392 s_L_144 ⟨Nat.le_of_ble_eq_true rfl, Nat.le_of_ble_eq_true rfl⟩ rfl (mj_wt_8 (Nat.le_of_ble_eq_true rfl)) (hm1) ⟨_, rfl, rfl⟩ (hM) (fun r_392 A_392 h_392 => ?_) (fun E_392 A_x h_392 => ?_)
  rotate_left
  · exact h_392.elim
  obtain ⟨v, rfl, h0, hout, C2, h2⟩ := h_392
  refine mx_R fun hR_1 => ?_
  refine mx_istore 6 d_L_law_395 (Nat.le_of_ble_eq_true rfl) ?_
  refine mx_aload_n 2 d_L_law_397 rfl rfl ?_
  refine mx_callV (kc := 20*n) (ks := 4767*n) (N := n_M_thrown) (as := []) (ci := 7) d_L_law_398 s_L_134 ⟨Nat.le_of_ble_eq_true rfl, Nat.le_of_ble_eq_true rfl⟩ rfl (mj_wt_8 (Nat.le_of_ble_eq_true rfl)) (h2.j.m.M.o) ⟨_, rfl, rfl⟩ (cm_thrown h2.j.m.M) (fun r_398 A_398 h_398 => ?_) (fun E_398 A_x h_398 => ?_)
  rotate_left
  · exact h_398.elim
  obtain ⟨rfl, hA_398⟩ := h_398
  obtain rfl := hA_398.symm
  clear hA_398
  refine mx_R fun hR_2 => ?_
  refine mx_iload 5 d_L_law_401 rfl ?_
  refine mx_icmp_eq 408 d_L_law_403 rfl (by first | assumption | exact hR_2 _ _ | exact hR_1 _ _ | exact hR _ _ | exact r32_mk (by omega) (by omega)) (by first | assumption | exact hR_2 _ _ | exact hR_1 _ _ | exact hR _ _ | exact r32_mk (by omega) (by omega)) (fun c_403 => ?_) (fun c_403 => ?_)
  · refine mx_iload 5 d_L_law_408 rfl ?_
    refine mx_if_ne 425 d_L_law_410 rfl (by first | assumption | exact hR_2 _ _ | exact hR_1 _ _ | exact hR _ _ | exact r32_mk (by omega) (by omega)) (fun c_410 => ?_) (fun c_410 => ?_)
    · refine mx_goto 2565 d_L_law_425 rfl ?_
      exact htail _ _ _ ⟨C2, h2⟩
    · refine mx_aload_n 3 d_L_law_413 rfl rfl ?_
      refine mx_iconst d_L_law_414 ?_
      refine mx_lald d_L_law_415 (h2.j.y.o) (by omega) (by omega) ?_
      refine mx_iload 6 d_L_law_416 rfl ?_
      have hnr := nr_r v
      refine mx_nrm ?_
      refine mx_i2l d_L_law_418 (by first | assumption | exact hR_2 _ _ | exact hR_1 _ _ | exact hR _ _ | exact r32_mk (by omega) (by omega)) ?_
      refine mx_lcmp d_L_law_419 (by first | assumption | exact hR_2 _ _ | exact hR_1 _ _ | exact hR _ _ | exact r32_mk (by omega) (by omega)) (by first | assumption | exact hR_2 _ _ | exact hR_1 _ _ | exact hR _ _ | exact r32_mk (by omega) (by omega)) ?_
      refine mx_if_eq 425 d_L_law_420 rfl (by first | assumption | exact hR_2 _ _ | exact hR_1 _ _ | exact hR _ _ | exact r32_mk (by omega) (by omega)) (fun c_420 => ?_) (fun c_420 => ?_)
      · refine mx_goto 2565 d_L_law_425 rfl ?_
        exact htail _ _ _ ⟨C2, h2⟩
      · exact absurd (by rw [hout (by assumption), if_neg (Int.lt_irrefl _), if_pos rfl]) c_420
  · exact absurd h0 (by assumption)
theorem lw_pen {n : Nat} {X : Int → Int} {i : Int} {Q : mj_Q} {o5 o6 : Option mj_V} (hJ : JE X A) (hi : 0 ≤ i ∧ i + 6 ≤ X (-1)) (hX : X (-1) ≤ 3072) (htail : ∀ A2 o5 o6, JE X A2 → mj_X G n_L_law Q A2 (20 * n) (4767 * n) 2565 [some (mR (some 50)), some (mR (some 100)), some (mR (some 200)), some (mR (some 140)), some (mI i), o5, o6] []) : mj_X G n_L_law Q A (20 * (n + 1)) (4767 * (n + 1)) 428 [some (mR (some 50)), some (mR (some 100)), some (mR (some 200)), some (mR (some 140)), some (mI i), o5, o6] [] := by
  obtain ⟨C, h⟩ := hJ
  have hs := h.s
  have hx := h.x
  have hlen : gI A 50 (-1) = X (-1) := by rw [hx]
  have hns := h.j.m.g.ns
  refine mx_R fun hRA => ?_
  refine mx_less (kc' := 20 * n + 1) (ks' := 4767 * n + 6) (by omega) (by omega) ?_
  refine mx_R fun hR => ?_
  refine mx_aload_n 1 d_L_law_428 rfl rfl ?_
  refine mx_aload_n 0 d_L_law_429 rfl rfl ?_
  refine mx_iload 4 d_L_law_430 rfl ?_
  refine mx_iconst d_L_law_432 ?_
  refine mx_iadd d_L_law_433 ?_
  refine mx_sald d_L_law_434 hs (by omega) (by rw [hlen]; omega) ?_
  refine mx_aload_n 0 d_L_law_435 rfl rfl ?_
  refine mx_iload 4 d_L_law_436 rfl ?_
  refine mx_iconst d_L_law_438 ?_
  refine mx_iadd d_L_law_439 ?_
  refine mx_sald d_L_law_440 hs (by omega) (by rw [hlen]; omega) ?_
  refine mx_callSH (kc := 20 * n) (ks := 4767 * n) (N := n_L_pen) (as := [_, _, _]) d_L_law_441 s_L_145 ⟨Nat.le_of_ble_eq_true rfl, Nat.le_of_ble_eq_true rfl⟩ rfl (mj_wt_8 (Nat.le_of_ble_eq_true rfl)) (js_pen h (hRA 50 _) (hRA 50 _)) (fun r A1 hr => ?_) (fun E A_x h => h.elim)
  obtain ⟨kk, rfl, hkk, ⟨hs1, hx1, hm1⟩, hM⟩ := hr
  have hlen1 : gI A1 50 (-1) = X (-1) := by rw [hx1]
  have hA1x : gI A1 50 = gI A 50 := hx1.trans hx.symm
  refine mx_R fun hR => ?_
  refine mx_istore 5 d_L_law_444 (Nat.le_of_ble_eq_true rfl) ?_
  refine mx_aload_n 2 d_L_law_446 rfl rfl ?_
  refine mx_aload_n 0 d_L_law_447 rfl rfl ?_
  refine mx_iload 4 d_L_law_448 rfl ?_
  refine mx_iconst d_L_law_450 ?_
  refine mx_iadd d_L_law_451 ?_
  refine mx_sald d_L_law_452 hs1 (by omega) (by rw [hlen1]; omega) ?_
  rw [hA1x]
  refine mx_aload_n 0 d_L_law_453 rfl rfl ?_
  refine mx_iload 4 d_L_law_454 rfl ?_
  refine mx_iconst d_L_law_456 ?_
  refine mx_iadd d_L_law_457 ?_
  refine mx_sald d_L_law_458 hs1 (by omega) (by rw [hlen1]; omega) ?_
  rw [hA1x]
  refine mx_callV (kc := 20*n) (ks := 4767*n) (N := n_M_pen) (as := [_, _]) (ci := 7) d_L_law_459 s_L_148 ⟨Nat.le_of_ble_eq_true rfl, Nat.le_of_ble_eq_true rfl⟩ rfl (mj_wt_8 (Nat.le_of_ble_eq_true rfl)) (hm1) ⟨_, rfl, rfl⟩ (hM) (fun r_459 A_459 h_459 => ?_) (fun E_459 A_x h_459 => ?_)
  rotate_left
  · exact h_459.elim
  obtain ⟨rfl, h0, C2, h2⟩ := h_459
  refine mx_R fun hR_1 => ?_
  refine mx_aload_n 2 d_L_law_462 rfl rfl ?_
  refine mx_callV (kc := 20*n) (ks := 4767*n) (N := n_M_thrown) (as := []) (ci := 7) d_L_law_463 s_L_134 ⟨Nat.le_of_ble_eq_true rfl, Nat.le_of_ble_eq_true rfl⟩ rfl (mj_wt_8 (Nat.le_of_ble_eq_true rfl)) (h2.j.m.M.o) ⟨_, rfl, rfl⟩ (cm_thrown h2.j.m.M) (fun r_463 A_463 h_463 => ?_) (fun E_463 A_x h_463 => ?_)
  rotate_left
  · exact h_463.elim
  obtain ⟨rfl, hA_463⟩ := h_463
  obtain rfl := hA_463.symm
  clear hA_463
  refine mx_R fun hR_2 => ?_
  refine mx_iload 5 d_L_law_466 rfl ?_
  refine mx_icmp_eq 473 d_L_law_468 rfl (by first | assumption | exact hR_2 _ _ | exact hR_1 _ _ | exact hR _ _ | exact r32_mk (by omega) (by omega)) (by first | assumption | exact hR_2 _ _ | exact hR_1 _ _ | exact hR _ _ | exact r32_mk (by omega) (by omega)) (fun c_468 => ?_) (fun c_468 => ?_)
  · refine mx_goto 2565 d_L_law_473 rfl ?_
    exact htail _ _ _ ⟨C2, h2⟩
  · exact absurd h0 (by assumption)
theorem lw_erase {n : Nat} {X : Int → Int} {i : Int} {Q : mj_Q} {o5 o6 : Option mj_V} (hJ : JE X A) (hi : 0 ≤ i ∧ i + 6 ≤ X (-1)) (hX : X (-1) ≤ 3072) (htail : ∀ A2 o5 o6, JE X A2 → mj_X G n_L_law Q A2 (20 * n) (4767 * n) 2565 [some (mR (some 50)), some (mR (some 100)), some (mR (some 200)), some (mR (some 140)), some (mI i), o5, o6] []) : mj_X G n_L_law Q A (20 * (n + 1)) (4767 * (n + 1)) 476 [some (mR (some 50)), some (mR (some 100)), some (mR (some 200)), some (mR (some 140)), some (mI i), o5, o6] [] := by
  obtain ⟨C, h⟩ := hJ
  have hs := h.s
  have hx := h.x
  have hlen : gI A 50 (-1) = X (-1) := by rw [hx]
  have hns := h.j.m.g.ns
  refine mx_R fun hRA => ?_
  refine mx_less (kc' := 20 * n + 3) (ks' := 4767 * n + 18) (by omega) (by omega) ?_
  refine mx_R fun hR => ?_
  refine mx_aload_n 1 d_L_law_476 rfl rfl ?_
  refine mx_aload_n 0 d_L_law_477 rfl rfl ?_
  refine mx_iload 4 d_L_law_478 rfl ?_
  refine mx_iconst d_L_law_480 ?_
  refine mx_iadd d_L_law_481 ?_
  refine mx_sald d_L_law_482 hs (by omega) (by rw [hlen]; omega) ?_
  refine mx_aload_n 0 d_L_law_483 rfl rfl ?_
  refine mx_iload 4 d_L_law_484 rfl ?_
  refine mx_iconst d_L_law_486 ?_
  refine mx_iadd d_L_law_487 ?_
  refine mx_sald d_L_law_488 hs (by omega) (by rw [hlen]; omega) ?_
  refine mx_aload_n 3 d_L_law_489 rfl rfl ?_
  refine mx_callSH (kc := 20 * n) (ks := 4767 * n) (N := n_L_erase) (as := [_, _, _, _]) d_L_law_490 s_L_149 ⟨Nat.le_of_ble_eq_true rfl, Nat.le_of_ble_eq_true rfl⟩ rfl (mj_wt_8 (Nat.le_of_ble_eq_true rfl)) (js_erase h (hRA 50 _) (hRA 50 _)) (fun r A1 hr => ?_) (fun E A_x h => h.elim)
  obtain ⟨kk, rfl, hkk, ⟨hs1, hx1, hm1⟩, hM⟩ := hr
  have hlen1 : gI A1 50 (-1) = X (-1) := by rw [hx1]
  have hA1x : gI A1 50 = gI A 50 := hx1.trans hx.symm
  refine mx_R fun hR => ?_
  refine mx_istore 5 d_L_law_493 (Nat.le_of_ble_eq_true rfl) ?_
  refine mx_aload_n 2 d_L_law_495 rfl rfl ?_
  refine mx_aload_n 0 d_L_law_496 rfl rfl ?_
  refine mx_iload 4 d_L_law_497 rfl ?_
  refine mx_iconst d_L_law_499 ?_
  refine mx_iadd d_L_law_500 ?_
  refine mx_sald d_L_law_501 hs1 (by omega) (by rw [hlen1]; omega) ?_
  rw [hA1x]
  refine mx_aload_n 0 d_L_law_502 rfl rfl ?_
  refine mx_iload 4 d_L_law_503 rfl ?_
  refine mx_iconst d_L_law_505 ?_
  refine mx_iadd d_L_law_506 ?_
  refine mx_sald d_L_law_507 hs1 (by omega) (by rw [hlen1]; omega) ?_
  rw [hA1x]
  refine mx_callV (kc := 20*n) (ks := 4767*n) (N := n_M_erase) (as := [_, _]) (ci := 7) d_L_law_508 s_L_152 ⟨Nat.le_of_ble_eq_true rfl, Nat.le_of_ble_eq_true rfl⟩ rfl (mj_wt_8 (Nat.le_of_ble_eq_true rfl)) (hm1) ⟨_, rfl, rfl⟩ (hM) (fun r_508 A_508 h_508 => ?_) (fun E_508 A_x h_508 => ?_)
  rotate_left
  · exact h_508.elim
  obtain ⟨v, rfl, h0, hout, C2, h2⟩ := h_508
  refine mx_R fun hR_1 => ?_
  refine mx_istore 6 d_L_law_511 (Nat.le_of_ble_eq_true rfl) ?_
  refine mx_aload_n 2 d_L_law_513 rfl rfl ?_
  refine mx_callV (kc := 20*n) (ks := 4767*n) (N := n_M_thrown) (as := []) (ci := 7) d_L_law_514 s_L_134 ⟨Nat.le_of_ble_eq_true rfl, Nat.le_of_ble_eq_true rfl⟩ rfl (mj_wt_8 (Nat.le_of_ble_eq_true rfl)) (h2.j.m.M.o) ⟨_, rfl, rfl⟩ (cm_thrown h2.j.m.M) (fun r_514 A_514 h_514 => ?_) (fun E_514 A_x h_514 => ?_)
  rotate_left
  · exact h_514.elim
  obtain ⟨rfl, hA_514⟩ := h_514
  obtain rfl := hA_514.symm
  clear hA_514
  refine mx_R fun hR_2 => ?_
  refine mx_iload 5 d_L_law_517 rfl ?_
  refine mx_icmp_eq 524 d_L_law_519 rfl (by first | assumption | exact hR_2 _ _ | exact hR_1 _ _ | exact hR _ _ | exact r32_mk (by omega) (by omega)) (by first | assumption | exact hR_2 _ _ | exact hR_1 _ _ | exact hR _ _ | exact r32_mk (by omega) (by omega)) (fun c_519 => ?_) (fun c_519 => ?_)
  · refine mx_iload 5 d_L_law_524 rfl ?_
    refine mx_if_ne 548 d_L_law_526 rfl (by first | assumption | exact hR_2 _ _ | exact hR_1 _ _ | exact hR _ _ | exact r32_mk (by omega) (by omega)) (fun c_526 => ?_) (fun c_526 => ?_)
    · refine mx_goto 2565 d_L_law_548 rfl ?_
      exact htail _ _ _ ⟨C2, h2⟩
    · refine mx_aload_n 3 d_L_law_529 rfl rfl ?_
      refine mx_iconst d_L_law_530 ?_
      refine mx_lald d_L_law_531 (h2.j.y.o) (by omega) (by omega) ?_
      refine mx_iload 6 d_L_law_532 rfl ?_
      have hv01 := (hout (by assumption)).2
      refine mx_if_eq 541 d_L_law_534 rfl (r32_01 hv01) (fun c_534 => ?_) (fun c_534 => ?_)
      · refine mx_lconst (z := 0) d_L_law_541 (by decide) ?_
        refine mx_lcmp d_L_law_542 (by first | assumption | exact hR_2 _ _ | exact hR_1 _ _ | exact hR _ _ | exact r32_mk (by omega) (by omega)) (by first | assumption | exact hR_2 _ _ | exact hR_1 _ _ | exact hR _ _ | exact r32_mk (by omega) (by omega)) ?_
        refine mx_if_eq 548 d_L_law_543 rfl (by first | assumption | exact hR_2 _ _ | exact hR_1 _ _ | exact hR _ _ | exact r32_mk (by omega) (by omega)) (fun c_543 => ?_) (fun c_543 => ?_)
        · refine mx_goto 2565 d_L_law_548 rfl ?_
          exact htail _ _ _ ⟨C2, h2⟩
        · exfalso
          have ho := (hout (by assumption)).1
          first
            | (rw [ho, nr_0 (by assumption)] at c_543; exact absurd (by decide) c_543)
            | (rw [ho, nr_1 (hv01.resolve_left (by assumption))] at c_543; exact absurd (by decide) c_543)
      · refine mx_lconst (z := 1) d_L_law_537 (by decide) ?_
        refine mx_goto 542 d_L_law_538 rfl ?_
        refine mx_lcmp d_L_law_542 (by first | assumption | exact hR_2 _ _ | exact hR_1 _ _ | exact hR _ _ | exact r32_mk (by omega) (by omega)) (by first | assumption | exact hR_2 _ _ | exact hR_1 _ _ | exact hR _ _ | exact r32_mk (by omega) (by omega)) ?_
        refine mx_if_eq 548 d_L_law_543 rfl (by first | assumption | exact hR_2 _ _ | exact hR_1 _ _ | exact hR _ _ | exact r32_mk (by omega) (by omega)) (fun c_543 => ?_) (fun c_543 => ?_)
        · refine mx_goto 2565 d_L_law_548 rfl ?_
          exact htail _ _ _ ⟨C2, h2⟩
        · exfalso
          have ho := (hout (by assumption)).1
          first
            | (rw [ho, nr_0 (by assumption)] at c_543; exact absurd (by decide) c_543)
            | (rw [ho, nr_1 (hv01.resolve_left (by assumption))] at c_543; exact absurd (by decide) c_543)
  · exact absurd h0 (by assumption)
theorem lw_paint {n : Nat} {X : Int → Int} {i : Int} {Q : mj_Q} {o5 o6 : Option mj_V} (hJ : JE X A) (hi : 0 ≤ i ∧ i + 6 ≤ X (-1)) (hX : X (-1) ≤ 3072) (htail : ∀ A2 o5 o6, JE X A2 → mj_X G n_L_law Q A2 (20 * n) (4767 * n) 2565 [some (mR (some 50)), some (mR (some 100)), some (mR (some 200)), some (mR (some 140)), some (mI i), o5, o6] []) : mj_X G n_L_law Q A (20 * (n + 1)) (4767 * (n + 1)) 551 [some (mR (some 50)), some (mR (some 100)), some (mR (some 200)), some (mR (some 140)), some (mI i), o5, o6] [] := by
  obtain ⟨C, h⟩ := hJ
  have hs := h.s
  have hx := h.x
  have hlen : gI A 50 (-1) = X (-1) := by rw [hx]
  have hns := h.j.m.g.ns
  refine mx_R fun hRA => ?_
  refine mx_less (kc' := 20 * n + 4) (ks' := 4767 * n + 24) (by omega) (by omega) ?_
  refine mx_R fun hR => ?_
  refine mx_aload_n 1 d_L_law_551 rfl rfl ?_
  refine mx_aload_n 0 d_L_law_552 rfl rfl ?_
  refine mx_iload 4 d_L_law_553 rfl ?_
  refine mx_iconst d_L_law_555 ?_
  refine mx_iadd d_L_law_556 ?_
  refine mx_sald d_L_law_557 hs (by omega) (by rw [hlen]; omega) ?_
  refine mx_aload_n 0 d_L_law_558 rfl rfl ?_
  refine mx_iload 4 d_L_law_559 rfl ?_
  refine mx_iconst d_L_law_561 ?_
  refine mx_iadd d_L_law_562 ?_
  refine mx_sald d_L_law_563 hs (by omega) (by rw [hlen]; omega) ?_
  refine mx_aload_n 3 d_L_law_564 rfl rfl ?_
  refine mx_callSH (kc := 20 * n) (ks := 4767 * n) (N := n_L_paint) (as := [_, _, _, _]) d_L_law_565 s_L_153 ⟨Nat.le_of_ble_eq_true rfl, Nat.le_of_ble_eq_true rfl⟩ rfl (mj_wt_8 (Nat.le_of_ble_eq_true rfl)) (js_paint h (hRA 50 _) (hRA 50 _)) (fun r A1 hr => ?_) (fun E A_x h => h.elim)
  obtain ⟨kk, rfl, hkk, ⟨hs1, hx1, hm1⟩, hM⟩ := hr
  have hlen1 : gI A1 50 (-1) = X (-1) := by rw [hx1]
  have hA1x : gI A1 50 = gI A 50 := hx1.trans hx.symm
  refine mx_R fun hR => ?_
  refine mx_istore 5 d_L_law_568 (Nat.le_of_ble_eq_true rfl) ?_
  refine mx_aload_n 2 d_L_law_570 rfl rfl ?_
  refine mx_aload_n 0 d_L_law_571 rfl rfl ?_
  refine mx_iload 4 d_L_law_572 rfl ?_
  refine mx_iconst d_L_law_574 ?_
  refine mx_iadd d_L_law_575 ?_
  refine mx_sald d_L_law_576 hs1 (by omega) (by rw [hlen1]; omega) ?_
  rw [hA1x]
  refine mx_aload_n 0 d_L_law_577 rfl rfl ?_
  refine mx_iload 4 d_L_law_578 rfl ?_
  refine mx_iconst d_L_law_580 ?_
  refine mx_iadd d_L_law_581 ?_
  refine mx_sald d_L_law_582 hs1 (by omega) (by rw [hlen1]; omega) ?_
  rw [hA1x]
  refine mx_callV (kc := 20*n) (ks := 4767*n) (N := n_M_paint) (as := [_, _]) (ci := 7) d_L_law_583 s_L_155 ⟨Nat.le_of_ble_eq_true rfl, Nat.le_of_ble_eq_true rfl⟩ rfl (mj_wt_8 (Nat.le_of_ble_eq_true rfl)) (hm1) ⟨_, rfl, rfl⟩ (hM) (fun r_583 A_583 h_583 => ?_) (fun E_583 A_x h_583 => ?_)
  rotate_left
  · exact h_583.elim
  obtain ⟨v, rfl, h0, hout, C2, h2⟩ := h_583
  refine mx_R fun hR_1 => ?_
  refine mx_istore 6 d_L_law_586 (Nat.le_of_ble_eq_true rfl) ?_
  refine mx_aload_n 2 d_L_law_588 rfl rfl ?_
  refine mx_callV (kc := 20*n) (ks := 4767*n) (N := n_M_thrown) (as := []) (ci := 7) d_L_law_589 s_L_134 ⟨Nat.le_of_ble_eq_true rfl, Nat.le_of_ble_eq_true rfl⟩ rfl (mj_wt_8 (Nat.le_of_ble_eq_true rfl)) (h2.j.m.M.o) ⟨_, rfl, rfl⟩ (cm_thrown h2.j.m.M) (fun r_589 A_589 h_589 => ?_) (fun E_589 A_x h_589 => ?_)
  rotate_left
  · exact h_589.elim
  obtain ⟨rfl, hA_589⟩ := h_589
  obtain rfl := hA_589.symm
  clear hA_589
  refine mx_R fun hR_2 => ?_
  refine mx_iload 5 d_L_law_592 rfl ?_
  refine mx_icmp_eq 599 d_L_law_594 rfl (by first | assumption | exact hR_2 _ _ | exact hR_1 _ _ | exact hR _ _ | exact r32_mk (by omega) (by omega)) (by first | assumption | exact hR_2 _ _ | exact hR_1 _ _ | exact hR _ _ | exact r32_mk (by omega) (by omega)) (fun c_594 => ?_) (fun c_594 => ?_)
  · refine mx_iload 5 d_L_law_599 rfl ?_
    refine mx_if_ne 616 d_L_law_601 rfl (by first | assumption | exact hR_2 _ _ | exact hR_1 _ _ | exact hR _ _ | exact r32_mk (by omega) (by omega)) (fun c_601 => ?_) (fun c_601 => ?_)
    · refine mx_goto 2565 d_L_law_616 rfl ?_
      exact htail _ _ _ ⟨C2, h2⟩
    · refine mx_aload_n 3 d_L_law_604 rfl rfl ?_
      refine mx_iconst d_L_law_605 ?_
      refine mx_lald d_L_law_606 (h2.j.y.o) (by omega) (by omega) ?_
      refine mx_iload 6 d_L_law_607 rfl ?_
      have hnr := nr_r v
      refine mx_nrm ?_
      refine mx_i2l d_L_law_609 (by first | assumption | exact hR_2 _ _ | exact hR_1 _ _ | exact hR _ _ | exact r32_mk (by omega) (by omega)) ?_
      refine mx_lcmp d_L_law_610 (by first | assumption | exact hR_2 _ _ | exact hR_1 _ _ | exact hR _ _ | exact r32_mk (by omega) (by omega)) (by first | assumption | exact hR_2 _ _ | exact hR_1 _ _ | exact hR _ _ | exact r32_mk (by omega) (by omega)) ?_
      refine mx_if_eq 616 d_L_law_611 rfl (by first | assumption | exact hR_2 _ _ | exact hR_1 _ _ | exact hR _ _ | exact r32_mk (by omega) (by omega)) (fun c_611 => ?_) (fun c_611 => ?_)
      · refine mx_goto 2565 d_L_law_616 rfl ?_
        exact htail _ _ _ ⟨C2, h2⟩
      · exact absurd (by rw [hout (by assumption), if_neg (Int.lt_irrefl _), if_pos rfl]) c_611
  · exact absurd h0 (by assumption)
theorem lw_gaps {n : Nat} {X : Int → Int} {i : Int} {Q : mj_Q} {o5 o6 : Option mj_V} (hJ : JE X A) (hi : 0 ≤ i ∧ i + 6 ≤ X (-1)) (hX : X (-1) ≤ 3072) (htail : ∀ A2 o5 o6, JE X A2 → mj_X G n_L_law Q A2 (20 * n) (4767 * n) 2565 [some (mR (some 50)), some (mR (some 100)), some (mR (some 200)), some (mR (some 140)), some (mI i), o5, o6] []) : mj_X G n_L_law Q A (20 * (n + 1)) (4767 * (n + 1)) 619 [some (mR (some 50)), some (mR (some 100)), some (mR (some 200)), some (mR (some 140)), some (mI i), o5, o6] [] := by
  obtain ⟨C, h⟩ := hJ
  have hs := h.s
  have hx := h.x
  have hlen : gI A 50 (-1) = X (-1) := by rw [hx]
  have hns := h.j.m.g.ns
  refine mx_R fun hRA => ?_
  refine mx_less (kc' := 20 * n + 2) (ks' := 4767 * n + 12) (by omega) (by omega) ?_
  refine mx_R fun hR => ?_
  refine mx_aload_n 1 d_L_law_619 rfl rfl ?_
  refine mx_aload_n 0 d_L_law_620 rfl rfl ?_
  refine mx_iload 4 d_L_law_621 rfl ?_
  refine mx_iconst d_L_law_623 ?_
  refine mx_iadd d_L_law_624 ?_
  refine mx_sald d_L_law_625 hs (by omega) (by rw [hlen]; omega) ?_
  refine mx_aload_n 3 d_L_law_626 rfl rfl ?_
  refine mx_callSH (kc := 20 * n) (ks := 4767 * n) (N := n_L_gaps) (as := [_, _, _]) d_L_law_627 s_L_156 ⟨Nat.le_of_ble_eq_true rfl, Nat.le_of_ble_eq_true rfl⟩ rfl (mj_wt_8 (Nat.le_of_ble_eq_true rfl)) (js_gaps h (hRA 50 _)) (fun r A1 hr => ?_) (fun E A_x h => h.elim)
  obtain ⟨kk, rfl, hkk, ⟨hs1, hx1, hm1⟩, hM⟩ := hr
  have hlen1 : gI A1 50 (-1) = X (-1) := by rw [hx1]
  have hA1x : gI A1 50 = gI A 50 := hx1.trans hx.symm
  refine mx_R fun hR => ?_
  refine mx_istore 5 d_L_law_630 (Nat.le_of_ble_eq_true rfl) ?_
  refine mx_aload_n 2 d_L_law_632 rfl rfl ?_
  refine mx_aload_n 0 d_L_law_633 rfl rfl ?_
  refine mx_iload 4 d_L_law_634 rfl ?_
  refine mx_iconst d_L_law_636 ?_
  refine mx_iadd d_L_law_637 ?_
  refine mx_sald d_L_law_638 hs1 (by omega) (by rw [hlen1]; omega) ?_
  rw [hA1x]
  refine mx_callV (kc := 20*n) (ks := 4767*n) (N := n_M_gaps) (as := [_]) (ci := 7) d_L_law_639 s_L_159 ⟨Nat.le_of_ble_eq_true rfl, Nat.le_of_ble_eq_true rfl⟩ rfl (mj_wt_8 (Nat.le_of_ble_eq_true rfl)) (hm1) ⟨_, rfl, rfl⟩ (hM) (fun r_639 A_639 h_639 => ?_) (fun E_639 A_x h_639 => ?_)
  rotate_left
  · exact h_639.elim
  obtain ⟨v, rfl, h0, hout, C2, h2⟩ := h_639
  refine mx_R fun hR_1 => ?_
  refine mx_istore 6 d_L_law_642 (Nat.le_of_ble_eq_true rfl) ?_
  refine mx_aload_n 2 d_L_law_644 rfl rfl ?_
  refine mx_callV (kc := 20*n) (ks := 4767*n) (N := n_M_thrown) (as := []) (ci := 7) d_L_law_645 s_L_134 ⟨Nat.le_of_ble_eq_true rfl, Nat.le_of_ble_eq_true rfl⟩ rfl (mj_wt_8 (Nat.le_of_ble_eq_true rfl)) (h2.j.m.M.o) ⟨_, rfl, rfl⟩ (cm_thrown h2.j.m.M) (fun r_645 A_645 h_645 => ?_) (fun E_645 A_x h_645 => ?_)
  rotate_left
  · exact h_645.elim
  obtain ⟨rfl, hA_645⟩ := h_645
  obtain rfl := hA_645.symm
  clear hA_645
  refine mx_R fun hR_2 => ?_
  refine mx_iload 5 d_L_law_648 rfl ?_
  refine mx_icmp_eq 655 d_L_law_650 rfl (by first | assumption | exact hR_2 _ _ | exact hR_1 _ _ | exact hR _ _ | exact r32_mk (by omega) (by omega)) (by first | assumption | exact hR_2 _ _ | exact hR_1 _ _ | exact hR _ _ | exact r32_mk (by omega) (by omega)) (fun c_650 => ?_) (fun c_650 => ?_)
  · refine mx_iload 5 d_L_law_655 rfl ?_
    refine mx_if_ne 679 d_L_law_657 rfl (by first | assumption | exact hR_2 _ _ | exact hR_1 _ _ | exact hR _ _ | exact r32_mk (by omega) (by omega)) (fun c_657 => ?_) (fun c_657 => ?_)
    · refine mx_goto 2565 d_L_law_679 rfl ?_
      exact htail _ _ _ ⟨C2, h2⟩
    · refine mx_aload_n 3 d_L_law_660 rfl rfl ?_
      refine mx_iconst d_L_law_661 ?_
      refine mx_lald d_L_law_662 (h2.j.y.o) (by omega) (by omega) ?_
      refine mx_iload 6 d_L_law_663 rfl ?_
      have hv01 := (hout (by assumption)).2
      refine mx_if_eq 672 d_L_law_665 rfl (r32_01 hv01) (fun c_665 => ?_) (fun c_665 => ?_)
      · refine mx_lconst (z := 0) d_L_law_672 (by decide) ?_
        refine mx_lcmp d_L_law_673 (by first | assumption | exact hR_2 _ _ | exact hR_1 _ _ | exact hR _ _ | exact r32_mk (by omega) (by omega)) (by first | assumption | exact hR_2 _ _ | exact hR_1 _ _ | exact hR _ _ | exact r32_mk (by omega) (by omega)) ?_
        refine mx_if_eq 679 d_L_law_674 rfl (by first | assumption | exact hR_2 _ _ | exact hR_1 _ _ | exact hR _ _ | exact r32_mk (by omega) (by omega)) (fun c_674 => ?_) (fun c_674 => ?_)
        · refine mx_goto 2565 d_L_law_679 rfl ?_
          exact htail _ _ _ ⟨C2, h2⟩
        · exfalso
          have ho := (hout (by assumption)).1
          first
            | (rw [ho, nr_0 (by assumption)] at c_674; exact absurd (by decide) c_674)
            | (rw [ho, nr_1 (hv01.resolve_left (by assumption))] at c_674; exact absurd (by decide) c_674)
      · refine mx_lconst (z := 1) d_L_law_668 (by decide) ?_
        refine mx_goto 673 d_L_law_669 rfl ?_
        refine mx_lcmp d_L_law_673 (by first | assumption | exact hR_2 _ _ | exact hR_1 _ _ | exact hR _ _ | exact r32_mk (by omega) (by omega)) (by first | assumption | exact hR_2 _ _ | exact hR_1 _ _ | exact hR _ _ | exact r32_mk (by omega) (by omega)) ?_
        refine mx_if_eq 679 d_L_law_674 rfl (by first | assumption | exact hR_2 _ _ | exact hR_1 _ _ | exact hR _ _ | exact r32_mk (by omega) (by omega)) (fun c_674 => ?_) (fun c_674 => ?_)
        · refine mx_goto 2565 d_L_law_679 rfl ?_
          exact htail _ _ _ ⟨C2, h2⟩
        · exfalso
          have ho := (hout (by assumption)).1
          first
            | (rw [ho, nr_0 (by assumption)] at c_674; exact absurd (by decide) c_674)
            | (rw [ho, nr_1 (hv01.resolve_left (by assumption))] at c_674; exact absurd (by decide) c_674)
  · exact absurd h0 (by assumption)
theorem lw_approve {n : Nat} {X : Int → Int} {i : Int} {Q : mj_Q} {o5 o6 : Option mj_V} (hJ : JE X A) (hi : 0 ≤ i ∧ i + 6 ≤ X (-1)) (hX : X (-1) ≤ 3072) (htail : ∀ A2 o5 o6, JE X A2 → mj_X G n_L_law Q A2 (20 * n) (4767 * n) 2565 [some (mR (some 50)), some (mR (some 100)), some (mR (some 200)), some (mR (some 140)), some (mI i), o5, o6] []) : mj_X G n_L_law Q A (20 * (n + 1)) (4767 * (n + 1)) 682 [some (mR (some 50)), some (mR (some 100)), some (mR (some 200)), some (mR (some 140)), some (mI i), o5, o6] [] := by
  obtain ⟨C, h⟩ := hJ
  have hs := h.s
  have hx := h.x
  have hlen : gI A 50 (-1) = X (-1) := by rw [hx]
  have hns := h.j.m.g.ns
  refine mx_R fun hRA => ?_
  refine mx_less (kc' := 20 * n + 2) (ks' := 4767 * n + 12) (by omega) (by omega) ?_
  refine mx_R fun hR => ?_
  refine mx_aload_n 1 d_L_law_682 rfl rfl ?_
  refine mx_aload_n 0 d_L_law_683 rfl rfl ?_
  refine mx_iload 4 d_L_law_684 rfl ?_
  refine mx_iconst d_L_law_686 ?_
  refine mx_iadd d_L_law_687 ?_
  refine mx_sald d_L_law_688 hs (by omega) (by rw [hlen]; omega) ?_
  refine mj_cutB (¬ gI A 50 (i + 2) = 0) 703 ?_ (fun hJ_689 => ?_)
  · refine mx_aload_n 3 d_L_law_703 rfl rfl ?_
    refine mx_callSH (kc := 20 * n) (ks := 4767 * n) (N := n_L_approve) (as := [_, _, _, _]) d_L_law_704 s_L_160 ⟨Nat.le_of_ble_eq_true rfl, Nat.le_of_ble_eq_true rfl⟩ rfl (mj_wt_8 (Nat.le_of_ble_eq_true rfl)) (js_approve h (hRA 50 _) (by split; exact Or.inr rfl; exact Or.inl rfl)) (fun r A1 hr => ?_) (fun E A_x h => h.elim)
    obtain ⟨kk, rfl, hkk, ⟨hs1, hx1, hm1⟩, hM⟩ := hr
    have hlen1 : gI A1 50 (-1) = X (-1) := by rw [hx1]
    have hA1x : gI A1 50 = gI A 50 := hx1.trans hx.symm
    refine mx_R fun hR => ?_
    refine mx_istore 5 d_L_law_707 (Nat.le_of_ble_eq_true rfl) ?_
    refine mx_aload_n 2 d_L_law_709 rfl rfl ?_
    refine mx_aload_n 0 d_L_law_710 rfl rfl ?_
    refine mx_iload 4 d_L_law_711 rfl ?_
    refine mx_iconst d_L_law_713 ?_
    refine mx_iadd d_L_law_714 ?_
    refine mx_sald d_L_law_715 hs1 (by omega) (by rw [hlen1]; omega) ?_
    rw [hA1x]
    refine mj_cutB (¬ gI A 50 (i + 2) = 0) 730 ?_ (fun hJ_716 => ?_)
    · refine mx_callV (kc := 20*n) (ks := 4767*n) (N := n_M_approve) (as := [_, _]) (ci := 7) d_L_law_730 s_L_163 ⟨Nat.le_of_ble_eq_true rfl, Nat.le_of_ble_eq_true rfl⟩ rfl (mj_wt_8 (Nat.le_of_ble_eq_true rfl)) (hm1) ⟨_, rfl, rfl⟩ (hM) (fun r_730 A_730 h_730 => ?_) (fun E_730 A_x h_730 => ?_)
      rotate_left
      · exact h_730.elim
      obtain ⟨v, rfl, h0, hout, C2, h2⟩ := h_730
      refine mx_R fun hR_1 => ?_
      refine mx_istore 6 d_L_law_733 (Nat.le_of_ble_eq_true rfl) ?_
      refine mx_aload_n 2 d_L_law_735 rfl rfl ?_
      refine mx_callV (kc := 20*n) (ks := 4767*n) (N := n_M_thrown) (as := []) (ci := 7) d_L_law_736 s_L_134 ⟨Nat.le_of_ble_eq_true rfl, Nat.le_of_ble_eq_true rfl⟩ rfl (mj_wt_8 (Nat.le_of_ble_eq_true rfl)) (h2.j.m.M.o) ⟨_, rfl, rfl⟩ (cm_thrown h2.j.m.M) (fun r_736 A_736 h_736 => ?_) (fun E_736 A_x h_736 => ?_)
      rotate_left
      · exact h_736.elim
      obtain ⟨rfl, hA_736⟩ := h_736
      obtain rfl := hA_736.symm
      clear hA_736
      refine mx_R fun hR_2 => ?_
      refine mx_iload 5 d_L_law_739 rfl ?_
      refine mx_icmp_eq 746 d_L_law_741 rfl (by first | assumption | exact hR_2 _ _ | exact hR_1 _ _ | exact hR _ _ | exact r32_mk (by omega) (by omega)) (by first | assumption | exact hR_2 _ _ | exact hR_1 _ _ | exact hR _ _ | exact r32_mk (by omega) (by omega)) (fun c_741 => ?_) (fun c_741 => ?_)
      · refine mx_iload 5 d_L_law_746 rfl ?_
        refine mx_if_ne 763 d_L_law_748 rfl (by first | assumption | exact hR_2 _ _ | exact hR_1 _ _ | exact hR _ _ | exact r32_mk (by omega) (by omega)) (fun c_748 => ?_) (fun c_748 => ?_)
        · refine mx_goto 2565 d_L_law_763 rfl ?_
          exact htail _ _ _ ⟨C2, h2⟩
        · refine mx_aload_n 3 d_L_law_751 rfl rfl ?_
          refine mx_iconst d_L_law_752 ?_
          refine mx_lald d_L_law_753 (h2.j.y.o) (by omega) (by omega) ?_
          refine mx_iload 6 d_L_law_754 rfl ?_
          have hnr := nr_r v
          refine mx_nrm ?_
          refine mx_i2l d_L_law_756 (by first | assumption | exact hR_2 _ _ | exact hR_1 _ _ | exact hR _ _ | exact r32_mk (by omega) (by omega)) ?_
          refine mx_lcmp d_L_law_757 (by first | assumption | exact hR_2 _ _ | exact hR_1 _ _ | exact hR _ _ | exact r32_mk (by omega) (by omega)) (by first | assumption | exact hR_2 _ _ | exact hR_1 _ _ | exact hR _ _ | exact r32_mk (by omega) (by omega)) ?_
          refine mx_if_eq 763 d_L_law_758 rfl (by first | assumption | exact hR_2 _ _ | exact hR_1 _ _ | exact hR _ _ | exact r32_mk (by omega) (by omega)) (fun c_758 => ?_) (fun c_758 => ?_)
          · refine mx_goto 2565 d_L_law_763 rfl ?_
            exact htail _ _ _ ⟨C2, h2⟩
          · exact absurd (by rw [hout (by assumption), if_neg (Int.lt_irrefl _), if_pos rfl]) c_758
      · exact absurd h0 (by assumption)
    · refine mx_aload_n 0 d_L_law_716 rfl rfl ?_
      refine mx_iload 4 d_L_law_717 rfl ?_
      refine mx_iconst d_L_law_719 ?_
      refine mx_iadd d_L_law_720 ?_
      refine mx_sald d_L_law_721 hs1 (by omega) (by rw [hlen1]; omega) ?_
      rw [hA1x]
      refine mx_if_eq 729 d_L_law_722 rfl (hRA 50 _) (fun c_722 => ?_) (fun c_722 => ?_)
      · refine mx_iconst d_L_law_729 ?_
        first | exact mj_j1 hJ_716 (by omega) | exact mj_j0 hJ_716 (by omega)
      · refine mx_iconst d_L_law_725 ?_
        refine mx_goto 730 d_L_law_726 rfl ?_
        first | exact mj_j1 hJ_716 (by omega) | exact mj_j0 hJ_716 (by omega)
  · refine mx_aload_n 0 d_L_law_689 rfl rfl ?_
    refine mx_iload 4 d_L_law_690 rfl ?_
    refine mx_iconst d_L_law_692 ?_
    refine mx_iadd d_L_law_693 ?_
    refine mx_sald d_L_law_694 hs (by omega) (by rw [hlen]; omega) ?_
    refine mx_if_eq 702 d_L_law_695 rfl (hRA 50 _) (fun c_695 => ?_) (fun c_695 => ?_)
    · refine mx_iconst d_L_law_702 ?_
      first | exact mj_j1 hJ_689 (by omega) | exact mj_j0 hJ_689 (by omega)
    · refine mx_iconst d_L_law_698 ?_
      refine mx_goto 703 d_L_law_699 rfl ?_
      first | exact mj_j1 hJ_689 (by omega) | exact mj_j0 hJ_689 (by omega)
theorem lw_colour {n : Nat} {X : Int → Int} {i : Int} {Q : mj_Q} {o5 o6 : Option mj_V} (hJ : JE X A) (hi : 0 ≤ i ∧ i + 6 ≤ X (-1)) (hX : X (-1) ≤ 3072) (htail : ∀ A2 o5 o6, JE X A2 → mj_X G n_L_law Q A2 (20 * n) (4767 * n) 2565 [some (mR (some 50)), some (mR (some 100)), some (mR (some 200)), some (mR (some 140)), some (mI i), o5, o6] []) : mj_X G n_L_law Q A (20 * (n + 1)) (4767 * (n + 1)) 766 [some (mR (some 50)), some (mR (some 100)), some (mR (some 200)), some (mR (some 140)), some (mI i), o5, o6] [] := by
  obtain ⟨C, h⟩ := hJ
  have hs := h.s
  have hx := h.x
  have hlen : gI A 50 (-1) = X (-1) := by rw [hx]
  have hns := h.j.m.g.ns
  refine mx_R fun hRA => ?_
  refine mx_less (kc' := 20 * n + 3) (ks' := 4767 * n + 18) (by omega) (by omega) ?_
  refine mx_R fun hR => ?_
  refine mx_aload_n 1 d_L_law_766 rfl rfl ?_
  refine mx_aload_n 0 d_L_law_767 rfl rfl ?_
  refine mx_iload 4 d_L_law_768 rfl ?_
  refine mx_iconst d_L_law_770 ?_
  refine mx_iadd d_L_law_771 ?_
  refine mx_sald d_L_law_772 hs (by omega) (by rw [hlen]; omega) ?_
  refine mx_aload_n 0 d_L_law_773 rfl rfl ?_
  refine mx_iload 4 d_L_law_774 rfl ?_
  refine mx_iconst d_L_law_776 ?_
  refine mx_iadd d_L_law_777 ?_
  refine mx_sald d_L_law_778 hs (by omega) (by rw [hlen]; omega) ?_
  refine mx_aload_n 0 d_L_law_779 rfl rfl ?_
  refine mx_iload 4 d_L_law_780 rfl ?_
  refine mx_iconst d_L_law_782 ?_
  refine mx_iadd d_L_law_783 ?_
  refine mx_sald d_L_law_784 hs (by omega) (by rw [hlen]; omega) ?_
  refine mx_aload_n 3 d_L_law_785 rfl rfl ?_
  refine mx_callSH (kc := 20 * n) (ks := 4767 * n) (N := n_L_colour) (as := [_, _, _, _, _]) d_L_law_786 s_L_164 ⟨Nat.le_of_ble_eq_true rfl, Nat.le_of_ble_eq_true rfl⟩ rfl (mj_wt_8 (Nat.le_of_ble_eq_true rfl)) (js_colour h (hRA 50 _) (hRA 50 _) (hRA 50 _)) (fun r A1 hr => ?_) (fun E A_x h => h.elim)
  obtain ⟨kk, rfl, hkk, ⟨hs1, hx1, hm1⟩, hM⟩ := hr
  have hlen1 : gI A1 50 (-1) = X (-1) := by rw [hx1]
  have hA1x : gI A1 50 = gI A 50 := hx1.trans hx.symm
  refine mx_R fun hR => ?_
  refine mx_istore 5 d_L_law_789 (Nat.le_of_ble_eq_true rfl) ?_
  refine mx_aload_n 2 d_L_law_791 rfl rfl ?_
  refine mx_aload_n 0 d_L_law_792 rfl rfl ?_
  refine mx_iload 4 d_L_law_793 rfl ?_
  refine mx_iconst d_L_law_795 ?_
  refine mx_iadd d_L_law_796 ?_
  refine mx_sald d_L_law_797 hs1 (by omega) (by rw [hlen1]; omega) ?_
  rw [hA1x]
  refine mx_aload_n 0 d_L_law_798 rfl rfl ?_
  refine mx_iload 4 d_L_law_799 rfl ?_
  refine mx_iconst d_L_law_801 ?_
  refine mx_iadd d_L_law_802 ?_
  refine mx_sald d_L_law_803 hs1 (by omega) (by rw [hlen1]; omega) ?_
  rw [hA1x]
  refine mx_aload_n 0 d_L_law_804 rfl rfl ?_
  refine mx_iload 4 d_L_law_805 rfl ?_
  refine mx_iconst d_L_law_807 ?_
  refine mx_iadd d_L_law_808 ?_
  refine mx_sald d_L_law_809 hs1 (by omega) (by rw [hlen1]; omega) ?_
  rw [hA1x]
  refine mx_callV (kc := 20*n) (ks := 4767*n) (N := n_M_colour) (as := [_, _, _]) (ci := 7) d_L_law_810 s_L_167 ⟨Nat.le_of_ble_eq_true rfl, Nat.le_of_ble_eq_true rfl⟩ rfl (mj_wt_8 (Nat.le_of_ble_eq_true rfl)) (hm1) ⟨_, rfl, rfl⟩ (hM) (fun r_810 A_810 h_810 => ?_) (fun E_810 A_x h_810 => ?_)
  rotate_left
  · exact h_810.elim
  obtain ⟨v, rfl, h0, hout, C2, h2⟩ := h_810
  refine mx_R fun hR_1 => ?_
  refine mx_istore 6 d_L_law_813 (Nat.le_of_ble_eq_true rfl) ?_
  refine mx_aload_n 2 d_L_law_815 rfl rfl ?_
  refine mx_callV (kc := 20*n) (ks := 4767*n) (N := n_M_thrown) (as := []) (ci := 7) d_L_law_816 s_L_134 ⟨Nat.le_of_ble_eq_true rfl, Nat.le_of_ble_eq_true rfl⟩ rfl (mj_wt_8 (Nat.le_of_ble_eq_true rfl)) (h2.j.m.M.o) ⟨_, rfl, rfl⟩ (cm_thrown h2.j.m.M) (fun r_816 A_816 h_816 => ?_) (fun E_816 A_x h_816 => ?_)
  rotate_left
  · exact h_816.elim
  obtain ⟨rfl, hA_816⟩ := h_816
  obtain rfl := hA_816.symm
  clear hA_816
  refine mx_R fun hR_2 => ?_
  refine mx_iload 5 d_L_law_819 rfl ?_
  refine mx_icmp_eq 826 d_L_law_821 rfl (by first | assumption | exact hR_2 _ _ | exact hR_1 _ _ | exact hR _ _ | exact r32_mk (by omega) (by omega)) (by first | assumption | exact hR_2 _ _ | exact hR_1 _ _ | exact hR _ _ | exact r32_mk (by omega) (by omega)) (fun c_821 => ?_) (fun c_821 => ?_)
  · refine mx_iload 5 d_L_law_826 rfl ?_
    refine mx_if_ne 843 d_L_law_828 rfl (by first | assumption | exact hR_2 _ _ | exact hR_1 _ _ | exact hR _ _ | exact r32_mk (by omega) (by omega)) (fun c_828 => ?_) (fun c_828 => ?_)
    · refine mx_goto 2565 d_L_law_843 rfl ?_
      exact htail _ _ _ ⟨C2, h2⟩
    · refine mx_aload_n 3 d_L_law_831 rfl rfl ?_
      refine mx_iconst d_L_law_832 ?_
      refine mx_lald d_L_law_833 (h2.j.y.o) (by omega) (by omega) ?_
      refine mx_iload 6 d_L_law_834 rfl ?_
      have hnr := nr_r v
      refine mx_nrm ?_
      refine mx_i2l d_L_law_836 (by first | assumption | exact hR_2 _ _ | exact hR_1 _ _ | exact hR _ _ | exact r32_mk (by omega) (by omega)) ?_
      refine mx_lcmp d_L_law_837 (by first | assumption | exact hR_2 _ _ | exact hR_1 _ _ | exact hR _ _ | exact r32_mk (by omega) (by omega)) (by first | assumption | exact hR_2 _ _ | exact hR_1 _ _ | exact hR _ _ | exact r32_mk (by omega) (by omega)) ?_
      refine mx_if_eq 843 d_L_law_838 rfl (by first | assumption | exact hR_2 _ _ | exact hR_1 _ _ | exact hR _ _ | exact r32_mk (by omega) (by omega)) (fun c_838 => ?_) (fun c_838 => ?_)
      · refine mx_goto 2565 d_L_law_843 rfl ?_
        exact htail _ _ _ ⟨C2, h2⟩
      · exact absurd (by rw [hout (by assumption), if_neg (Int.lt_irrefl _), if_pos rfl]) c_838
  · exact absurd h0 (by assumption)
end LAWB
