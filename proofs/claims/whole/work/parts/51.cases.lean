/-! ===== the law, case by case ===== -/
set_option maxRecDepth 100000 in
set_option maxHeartbeats 2000000 in
theorem la_0 {x : kX} {l : Launch} {D : va_G} {cs : mC} {aX aM : Int → Nat} {b L : Nat} {xs : Nat → Int32} {C S : Nat} (h : lOk x l D cs aX aM b L xs C S) (hL : L ≤ 3072) {i : Int} {τ σX σM : mS} (i0 : 0 ≤ i) (i6 : i + 6 ≤ (L : Int)) (hI : lInv τ σX σM) (kk : ∀ τ1 sX sM : mS, lInv τ1 sX sM → kG x 1203 [(0, .ref b), (1, .ref (aX 0)), (2, .ref (aM 0)), (3, mI i)] [] (lJ D x.1.2.2.2.2 (mW (gX D cs aX) sX) (mW (gM D cs aM) sM)) C S) : kG x 180 [(0, .ref b), (1, .ref (aX 0)), (2, .ref (aM 0)), (3, mI i)] [] (lJ D x.1.2.2.2.2 (mW (gX D cs aX) σX) (mW (gM D cs aM) σM)) C S := by
  refine k_aload_n h.1 dL_law_180 rfl ?_
  refine k_aload_n h.1 dL_law_181 rfl ?_
  refine k_iload_n h.1 dL_law_182 rfl ?_
  refine k_iconst h.1 dL_law_183 rfl ?_
  refine k_iadd h.1 dL_law_184 ?_
  refine l_sld h (by omega) (by omega) hL dL_law_185 ?_
  refine k_aload_n h.1 dL_law_186 rfl ?_
  refine k_iload_n h.1 dL_law_187 rfl ?_
  refine k_iconst h.1 dL_law_188 rfl ?_
  refine k_iadd h.1 dL_law_189 ?_
  refine l_sld h (by omega) (by omega) hL dL_law_190 ?_
  refine k_aload_n h.1 dL_law_191 rfl ?_
  refine k_iload_n h.1 dL_law_192 rfl ?_
  refine k_iconst h.1 dL_law_193 rfl ?_
  refine k_iadd h.1 dL_law_194 ?_
  refine l_sld h (by omega) (by omega) hL dL_law_195 ?_
  refine k_aload_n h.1 dL_law_196 rfl ?_
  refine k_iload_n h.1 dL_law_197 rfl ?_
  refine k_iconst h.1 dL_law_198 rfl ?_
  refine k_iadd h.1 dL_law_199 ?_
  refine l_sld h (by omega) (by omega) hL dL_law_200 ?_
  refine l_xI h (c_X7_council σX (sx xs (i + 1)) (sx xs (i + 2)) (sx xs (i + 3)) (sx xs (i + 4)) (sx_32 _ _) (sx_32 _ _) (sx_32 _ _) (sx_32 _ _) hI.w) (by decide) lm_RL_13 rfl dL_law_201 rfl (Nat.le_of_ble_eq_true rfl) (fun zx sX px => ?_)
  refine k_aload_n h.1 dL_law_204 rfl ?_
  refine k_aload_n h.1 dL_law_205 rfl ?_
  refine k_iload_n h.1 dL_law_206 rfl ?_
  refine k_iconst h.1 dL_law_207 rfl ?_
  refine k_iadd h.1 dL_law_208 ?_
  refine l_sld h (by omega) (by omega) hL dL_law_209 ?_
  refine k_aload_n h.1 dL_law_210 rfl ?_
  refine k_iload_n h.1 dL_law_211 rfl ?_
  refine k_iconst h.1 dL_law_212 rfl ?_
  refine k_iadd h.1 dL_law_213 ?_
  refine l_sld h (by omega) (by omega) hL dL_law_214 ?_
  refine k_aload_n h.1 dL_law_215 rfl ?_
  refine k_iload_n h.1 dL_law_216 rfl ?_
  refine k_iconst h.1 dL_law_217 rfl ?_
  refine k_iadd h.1 dL_law_218 ?_
  refine l_sld h (by omega) (by omega) hL dL_law_219 ?_
  refine k_aload_n h.1 dL_law_220 rfl ?_
  refine k_iload_n h.1 dL_law_221 rfl ?_
  refine k_iconst h.1 dL_law_222 rfl ?_
  refine k_iadd h.1 dL_law_223 ?_
  refine l_sld h (by omega) (by omega) hL dL_law_224 ?_
  refine l_mI h (c_X8_council σM (sx xs (i + 1)) (sx xs (i + 2)) (sx xs (i + 3)) (sx xs (i + 4)) (sx_32 _ _) (sx_32 _ _) (sx_32 _ _) (sx_32 _ _) hI.ok) (by decide) lm_RL_17 rfl dL_law_225 rfl (Nat.le_of_ble_eq_true rfl) (fun zm sM pm => ?_)
  obtain ⟨ex, rx⟩ := px
  obtain ⟨em, rm⟩ := pm
  rw [hI.1] at ex rx
  rw [hI.2.1.1] at em rm
  subst ex; subst em
  refine k_same (tgt := 1203) h.1 dL_law_228 (by decide) ?_
  exact kk (ns_council τ (sx xs (i + 1)) (sx xs (i + 2)) (sx xs (i + 3)) (sx xs (i + 4))) sX sM ⟨rx, rm, (kw_council hI.2.2 (sx xs (i + 1)) (sx xs (i + 2)) (sx xs (i + 3)) (sx xs (i + 4)))⟩
set_option maxRecDepth 100000 in
set_option maxHeartbeats 2000000 in
theorem la_1 {x : kX} {l : Launch} {D : va_G} {cs : mC} {aX aM : Int → Nat} {b L : Nat} {xs : Nat → Int32} {C S : Nat} (h : lOk x l D cs aX aM b L xs C S) (hL : L ≤ 3072) {i : Int} {τ σX σM : mS} (i0 : 0 ≤ i) (i6 : i + 6 ≤ (L : Int)) (hI : lInv τ σX σM) (kk : ∀ τ1 sX sM : mS, lInv τ1 sX sM → kG x 1203 [(0, .ref b), (1, .ref (aX 0)), (2, .ref (aM 0)), (3, mI i)] [] (lJ D x.1.2.2.2.2 (mW (gX D cs aX) sX) (mW (gM D cs aM) sM)) C S) : kG x 233 [(0, .ref b), (1, .ref (aX 0)), (2, .ref (aM 0)), (3, mI i)] [] (lJ D x.1.2.2.2.2 (mW (gX D cs aX) σX) (mW (gM D cs aM) σM)) C S := by
  refine k_aload_n h.1 dL_law_233 rfl ?_
  refine k_aload_n h.1 dL_law_234 rfl ?_
  refine k_iload_n h.1 dL_law_235 rfl ?_
  refine k_iconst h.1 dL_law_236 rfl ?_
  refine k_iadd h.1 dL_law_237 ?_
  refine l_sld h (by omega) (by omega) hL dL_law_238 ?_
  refine k_aload_n h.1 dL_law_239 rfl ?_
  refine k_iload_n h.1 dL_law_240 rfl ?_
  refine k_iconst h.1 dL_law_241 rfl ?_
  refine k_iadd h.1 dL_law_242 ?_
  refine l_sld h (by omega) (by omega) hL dL_law_243 ?_
  refine l_xI h (c_X7_ofBill σX (sx xs (i + 1)) (sx xs (i + 2)) (sx_32 _ _) (sx_32 _ _) hI.w) (by decide) lm_RL_18 rfl dL_law_244 rfl (Nat.le_of_ble_eq_true rfl) (fun zx sX px => ?_)
  refine k_aload_n h.1 dL_law_247 rfl ?_
  refine k_aload_n h.1 dL_law_248 rfl ?_
  refine k_iload_n h.1 dL_law_249 rfl ?_
  refine k_iconst h.1 dL_law_250 rfl ?_
  refine k_iadd h.1 dL_law_251 ?_
  refine l_sld h (by omega) (by omega) hL dL_law_252 ?_
  refine k_aload_n h.1 dL_law_253 rfl ?_
  refine k_iload_n h.1 dL_law_254 rfl ?_
  refine k_iconst h.1 dL_law_255 rfl ?_
  refine k_iadd h.1 dL_law_256 ?_
  refine l_sld h (by omega) (by omega) hL dL_law_257 ?_
  refine l_mI h (c_X8_ofBill σM (sx xs (i + 1)) (sx xs (i + 2)) (sx_32 _ _) (sx_32 _ _) hI.ok) (by decide) lm_RL_22 rfl dL_law_258 rfl (Nat.le_of_ble_eq_true rfl) (fun zm sM pm => ?_)
  obtain ⟨ex, rx⟩ := px
  obtain ⟨em, rm⟩ := pm
  rw [hI.1] at ex rx
  rw [hI.2.1.1] at em rm
  subst ex; subst em
  refine k_same (tgt := 1203) h.1 dL_law_261 (by decide) ?_
  exact kk τ sX sM ⟨rx, rm, hI.2.2⟩
set_option maxRecDepth 100000 in
set_option maxHeartbeats 2000000 in
theorem la_2 {x : kX} {l : Launch} {D : va_G} {cs : mC} {aX aM : Int → Nat} {b L : Nat} {xs : Nat → Int32} {C S : Nat} (h : lOk x l D cs aX aM b L xs C S) (hL : L ≤ 3072) {i : Int} {τ σX σM : mS} (i0 : 0 ≤ i) (i6 : i + 6 ≤ (L : Int)) (hI : lInv τ σX σM) (kk : ∀ τ1 sX sM : mS, lInv τ1 sX sM → kG x 1203 [(0, .ref b), (1, .ref (aX 0)), (2, .ref (aM 0)), (3, mI i)] [] (lJ D x.1.2.2.2.2 (mW (gX D cs aX) sX) (mW (gM D cs aM) sM)) C S) : kG x 266 [(0, .ref b), (1, .ref (aX 0)), (2, .ref (aM 0)), (3, mI i)] [] (lJ D x.1.2.2.2.2 (mW (gX D cs aX) σX) (mW (gM D cs aM) σM)) C S := by
  refine k_aload_n h.1 dL_law_266 rfl ?_
  refine k_aload_n h.1 dL_law_267 rfl ?_
  refine k_iload_n h.1 dL_law_268 rfl ?_
  refine k_iconst h.1 dL_law_269 rfl ?_
  refine k_iadd h.1 dL_law_270 ?_
  refine l_sld h (by omega) (by omega) hL dL_law_271 ?_
  refine l_xI h (c_X7_moon σX (sx xs (i + 1)) (sx_32 _ _) hI.w) (by decide) lm_RL_23 rfl dL_law_272 rfl (Nat.le_of_ble_eq_true rfl) (fun zx sX px => ?_)
  refine k_aload_n h.1 dL_law_275 rfl ?_
  refine k_aload_n h.1 dL_law_276 rfl ?_
  refine k_iload_n h.1 dL_law_277 rfl ?_
  refine k_iconst h.1 dL_law_278 rfl ?_
  refine k_iadd h.1 dL_law_279 ?_
  refine l_sld h (by omega) (by omega) hL dL_law_280 ?_
  refine l_mI h (c_X8_moon σM (sx xs (i + 1)) (sx_32 _ _) hI.ok) (by decide) lm_RL_27 rfl dL_law_281 rfl (Nat.le_of_ble_eq_true rfl) (fun zm sM pm => ?_)
  obtain ⟨ex, rx⟩ := px
  obtain ⟨em, rm⟩ := pm
  rw [hI.1] at ex rx
  rw [hI.2.1.1] at em rm
  subst ex; subst em
  refine k_same (tgt := 1203) h.1 dL_law_284 (by decide) ?_
  exact kk τ sX sM ⟨rx, rm, hI.2.2⟩
set_option maxRecDepth 100000 in
set_option maxHeartbeats 2000000 in
theorem la_3 {x : kX} {l : Launch} {D : va_G} {cs : mC} {aX aM : Int → Nat} {b L : Nat} {xs : Nat → Int32} {C S : Nat} (h : lOk x l D cs aX aM b L xs C S) (hL : L ≤ 3072) {i : Int} {τ σX σM : mS} (i0 : 0 ≤ i) (i6 : i + 6 ≤ (L : Int)) (hI : lInv τ σX σM) (kk : ∀ τ1 sX sM : mS, lInv τ1 sX sM → kG x 1203 [(0, .ref b), (1, .ref (aX 0)), (2, .ref (aM 0)), (3, mI i)] [] (lJ D x.1.2.2.2.2 (mW (gX D cs aX) sX) (mW (gM D cs aM) sM)) C S) : kG x 289 [(0, .ref b), (1, .ref (aX 0)), (2, .ref (aM 0)), (3, mI i)] [] (lJ D x.1.2.2.2.2 (mW (gX D cs aX) σX) (mW (gM D cs aM) σM)) C S := by
  refine k_aload_n h.1 dL_law_289 rfl ?_
  refine k_aload_n h.1 dL_law_290 rfl ?_
  refine k_iload_n h.1 dL_law_291 rfl ?_
  refine k_iconst h.1 dL_law_292 rfl ?_
  refine k_iadd h.1 dL_law_293 ?_
  refine l_sld h (by omega) (by omega) hL dL_law_294 ?_
  refine l_xI h (c_X7_span σX (sx xs (i + 1)) (sx_32 _ _) hI.w) (by decide) lm_RL_28 rfl dL_law_295 rfl (Nat.le_of_ble_eq_true rfl) (fun zx sX px => ?_)
  refine k_aload_n h.1 dL_law_298 rfl ?_
  refine k_aload_n h.1 dL_law_299 rfl ?_
  refine k_iload_n h.1 dL_law_300 rfl ?_
  refine k_iconst h.1 dL_law_301 rfl ?_
  refine k_iadd h.1 dL_law_302 ?_
  refine l_sld h (by omega) (by omega) hL dL_law_303 ?_
  refine l_mI h (c_X8_span σM (sx xs (i + 1)) (sx_32 _ _) hI.ok) (by decide) lm_RL_31 rfl dL_law_304 rfl (Nat.le_of_ble_eq_true rfl) (fun zm sM pm => ?_)
  obtain ⟨ex, rx⟩ := px
  obtain ⟨em, rm⟩ := pm
  rw [hI.1] at ex rx
  rw [hI.2.1.1] at em rm
  subst ex; subst em
  refine k_same (tgt := 1203) h.1 dL_law_307 (by decide) ?_
  exact kk (ns_span τ (sx xs (i + 1))) sX sM ⟨rx, rm, (kw_span hI.2.2 (sx xs (i + 1)))⟩
set_option maxRecDepth 100000 in
set_option maxHeartbeats 2000000 in
theorem la_4 {x : kX} {l : Launch} {D : va_G} {cs : mC} {aX aM : Int → Nat} {b L : Nat} {xs : Nat → Int32} {C S : Nat} (h : lOk x l D cs aX aM b L xs C S) (hL : L ≤ 3072) {i : Int} {τ σX σM : mS} (i0 : 0 ≤ i) (i6 : i + 6 ≤ (L : Int)) (hI : lInv τ σX σM) (kk : ∀ τ1 sX sM : mS, lInv τ1 sX sM → kG x 1203 [(0, .ref b), (1, .ref (aX 0)), (2, .ref (aM 0)), (3, mI i)] [] (lJ D x.1.2.2.2.2 (mW (gX D cs aX) sX) (mW (gM D cs aM) sM)) C S) : kG x 312 [(0, .ref b), (1, .ref (aX 0)), (2, .ref (aM 0)), (3, mI i)] [] (lJ D x.1.2.2.2.2 (mW (gX D cs aX) σX) (mW (gM D cs aM) σM)) C S := by
  refine k_aload_n h.1 dL_law_312 rfl ?_
  refine k_aload_n h.1 dL_law_313 rfl ?_
  refine k_iload_n h.1 dL_law_314 rfl ?_
  refine k_iconst h.1 dL_law_315 rfl ?_
  refine k_iadd h.1 dL_law_316 ?_
  refine l_sld h (by omega) (by omega) hL dL_law_317 ?_
  refine k_aload_n h.1 dL_law_318 rfl ?_
  refine k_iload_n h.1 dL_law_319 rfl ?_
  refine k_iconst h.1 dL_law_320 rfl ?_
  refine k_iadd h.1 dL_law_321 ?_
  refine l_sld h (by omega) (by omega) hL dL_law_322 ?_
  refine l_xI h (c_X7_move σX (sx xs (i + 1)) (sx xs (i + 2)) (sx_32 _ _) (sx_32 _ _) hI.w) (by decide) lm_RL_32 rfl dL_law_323 rfl (Nat.le_of_ble_eq_true rfl) (fun zx sX px => ?_)
  refine k_aload_n h.1 dL_law_326 rfl ?_
  refine k_aload_n h.1 dL_law_327 rfl ?_
  refine k_iload_n h.1 dL_law_328 rfl ?_
  refine k_iconst h.1 dL_law_329 rfl ?_
  refine k_iadd h.1 dL_law_330 ?_
  refine l_sld h (by omega) (by omega) hL dL_law_331 ?_
  refine k_aload_n h.1 dL_law_332 rfl ?_
  refine k_iload_n h.1 dL_law_333 rfl ?_
  refine k_iconst h.1 dL_law_334 rfl ?_
  refine k_iadd h.1 dL_law_335 ?_
  refine l_sld h (by omega) (by omega) hL dL_law_336 ?_
  refine l_mI h (c_X8_move σM (sx xs (i + 1)) (sx xs (i + 2)) (sx_32 _ _) (sx_32 _ _) hI.ok) (by decide) lm_RL_35 rfl dL_law_337 rfl (Nat.le_of_ble_eq_true rfl) (fun zm sM pm => ?_)
  obtain ⟨ex, rx⟩ := px
  obtain ⟨em, rm⟩ := pm
  rw [hI.1] at ex rx
  rw [hI.2.1.1] at em rm
  subst ex; subst em
  refine k_same (tgt := 1203) h.1 dL_law_340 (by decide) ?_
  exact kk (ns_move τ (sx xs (i + 1)) (sx xs (i + 2))) sX sM ⟨rx, rm, (kw_move hI.2.2 (sx xs (i + 1)) (sx xs (i + 2)))⟩
set_option maxRecDepth 100000 in
set_option maxHeartbeats 2000000 in
theorem la_5 {x : kX} {l : Launch} {D : va_G} {cs : mC} {aX aM : Int → Nat} {b L : Nat} {xs : Nat → Int32} {C S : Nat} (h : lOk x l D cs aX aM b L xs C S) (hL : L ≤ 3072) {i : Int} {τ σX σM : mS} (i0 : 0 ≤ i) (i6 : i + 6 ≤ (L : Int)) (hI : lInv τ σX σM) (kk : ∀ τ1 sX sM : mS, lInv τ1 sX sM → kG x 1203 [(0, .ref b), (1, .ref (aX 0)), (2, .ref (aM 0)), (3, mI i)] [] (lJ D x.1.2.2.2.2 (mW (gX D cs aX) sX) (mW (gM D cs aM) sM)) C S) : kG x 345 [(0, .ref b), (1, .ref (aX 0)), (2, .ref (aM 0)), (3, mI i)] [] (lJ D x.1.2.2.2.2 (mW (gX D cs aX) σX) (mW (gM D cs aM) σM)) C S := by
  refine k_aload_n h.1 dL_law_345 rfl ?_
  refine k_aload_n h.1 dL_law_346 rfl ?_
  refine k_iload_n h.1 dL_law_347 rfl ?_
  refine k_iconst h.1 dL_law_348 rfl ?_
  refine k_iadd h.1 dL_law_349 ?_
  refine l_sld h (by omega) (by omega) hL dL_law_350 ?_
  refine k_aload_n h.1 dL_law_351 rfl ?_
  refine k_iload_n h.1 dL_law_352 rfl ?_
  refine k_iconst h.1 dL_law_353 rfl ?_
  refine k_iadd h.1 dL_law_354 ?_
  refine l_sld h (by omega) (by omega) hL dL_law_355 ?_
  refine k_if_eq (tgt := 363) h.1 dL_law_356 (by decide) (sx_32 _ _) (fun c356 => ?_) (fun c356 => ?_)
  · refine k_iconst h.1 dL_law_363 rfl ?_
    refine l_xI h (c_X7_cloud σX (sx xs (i + 1)) 0 (sx_32 _ _) (Or.inl rfl) hI.w) (by decide) lm_RL_36 rfl dL_law_364 rfl (Nat.le_of_ble_eq_true rfl) (fun zx sX px => ?_)
    refine k_aload_n h.1 dL_law_367 rfl ?_
    refine k_aload_n h.1 dL_law_368 rfl ?_
    refine k_iload_n h.1 dL_law_369 rfl ?_
    refine k_iconst h.1 dL_law_370 rfl ?_
    refine k_iadd h.1 dL_law_371 ?_
    refine l_sld h (by omega) (by omega) hL dL_law_372 ?_
    refine k_aload_n h.1 dL_law_373 rfl ?_
    refine k_iload_n h.1 dL_law_374 rfl ?_
    refine k_iconst h.1 dL_law_375 rfl ?_
    refine k_iadd h.1 dL_law_376 ?_
    refine l_sld h (by omega) (by omega) hL dL_law_377 ?_
    refine k_if_eq (tgt := 385) h.1 dL_law_378 (by decide) (sx_32 _ _) (fun c378 => ?_) (fun c378 => ?_)
    · refine k_iconst h.1 dL_law_385 rfl ?_
      refine l_mI h (c_X8_cloud σM (sx xs (i + 1)) 0 (sx_32 _ _) (Or.inl rfl) hI.ok) (by decide) lm_RL_40 rfl dL_law_386 rfl (Nat.le_of_ble_eq_true rfl) (fun zm sM pm => ?_)
      obtain ⟨ex, rx⟩ := px
      obtain ⟨em, rm⟩ := pm
      rw [hI.1] at ex rx
      rw [hI.2.1.1] at em rm
      subst ex; subst em
      refine k_same (tgt := 1203) h.1 dL_law_389 (by decide) ?_
      exact kk (ns_cloud τ (sx xs (i + 1)) 0) sX sM ⟨rx, rm, (kw_cloud hI.2.2 (sx xs (i + 1)) (Or.inl rfl))⟩
    · exact absurd c356 c378
  · refine k_iconst h.1 dL_law_359 rfl ?_
    refine k_goto (tgt := 364) h.1 dL_law_360 (by decide) ?_
    refine l_xI h (c_X7_cloud σX (sx xs (i + 1)) 1 (sx_32 _ _) (Or.inr rfl) hI.w) (by decide) lm_RL_36 rfl dL_law_364 rfl (Nat.le_of_ble_eq_true rfl) (fun zx sX px => ?_)
    refine k_aload_n h.1 dL_law_367 rfl ?_
    refine k_aload_n h.1 dL_law_368 rfl ?_
    refine k_iload_n h.1 dL_law_369 rfl ?_
    refine k_iconst h.1 dL_law_370 rfl ?_
    refine k_iadd h.1 dL_law_371 ?_
    refine l_sld h (by omega) (by omega) hL dL_law_372 ?_
    refine k_aload_n h.1 dL_law_373 rfl ?_
    refine k_iload_n h.1 dL_law_374 rfl ?_
    refine k_iconst h.1 dL_law_375 rfl ?_
    refine k_iadd h.1 dL_law_376 ?_
    refine l_sld h (by omega) (by omega) hL dL_law_377 ?_
    refine k_if_eq (tgt := 385) h.1 dL_law_378 (by decide) (sx_32 _ _) (fun c378 => ?_) (fun c378 => ?_)
    · exact absurd c378 c356
    · refine k_iconst h.1 dL_law_381 rfl ?_
      refine k_goto (tgt := 386) h.1 dL_law_382 (by decide) ?_
      refine l_mI h (c_X8_cloud σM (sx xs (i + 1)) 1 (sx_32 _ _) (Or.inr rfl) hI.ok) (by decide) lm_RL_40 rfl dL_law_386 rfl (Nat.le_of_ble_eq_true rfl) (fun zm sM pm => ?_)
      obtain ⟨ex, rx⟩ := px
      obtain ⟨em, rm⟩ := pm
      rw [hI.1] at ex rx
      rw [hI.2.1.1] at em rm
      subst ex; subst em
      refine k_same (tgt := 1203) h.1 dL_law_389 (by decide) ?_
      exact kk (ns_cloud τ (sx xs (i + 1)) 1) sX sM ⟨rx, rm, (kw_cloud hI.2.2 (sx xs (i + 1)) (Or.inr rfl))⟩
set_option maxRecDepth 100000 in
set_option maxHeartbeats 2000000 in
theorem la_6 {x : kX} {l : Launch} {D : va_G} {cs : mC} {aX aM : Int → Nat} {b L : Nat} {xs : Nat → Int32} {C S : Nat} (h : lOk x l D cs aX aM b L xs C S) (hL : L ≤ 3072) {i : Int} {τ σX σM : mS} (i0 : 0 ≤ i) (i6 : i + 6 ≤ (L : Int)) (hI : lInv τ σX σM) (kk : ∀ τ1 sX sM : mS, lInv τ1 sX sM → kG x 1203 [(0, .ref b), (1, .ref (aX 0)), (2, .ref (aM 0)), (3, mI i)] [] (lJ D x.1.2.2.2.2 (mW (gX D cs aX) sX) (mW (gM D cs aM) sM)) C S) : kG x 394 [(0, .ref b), (1, .ref (aX 0)), (2, .ref (aM 0)), (3, mI i)] [] (lJ D x.1.2.2.2.2 (mW (gX D cs aX) σX) (mW (gM D cs aM) σM)) C S := by
  refine k_aload_n h.1 dL_law_394 rfl ?_
  refine k_aload_n h.1 dL_law_395 rfl ?_
  refine k_iload_n h.1 dL_law_396 rfl ?_
  refine k_iconst h.1 dL_law_397 rfl ?_
  refine k_iadd h.1 dL_law_398 ?_
  refine l_sld h (by omega) (by omega) hL dL_law_399 ?_
  refine l_xI h (c_X7_struck σX (sx xs (i + 1)) (sx_32 _ _) hI.w) (by decide) lm_RL_41 rfl dL_law_400 rfl (Nat.le_of_ble_eq_true rfl) (fun zx sX px => ?_)
  refine k_aload_n h.1 dL_law_403 rfl ?_
  refine k_aload_n h.1 dL_law_404 rfl ?_
  refine k_iload_n h.1 dL_law_405 rfl ?_
  refine k_iconst h.1 dL_law_406 rfl ?_
  refine k_iadd h.1 dL_law_407 ?_
  refine l_sld h (by omega) (by omega) hL dL_law_408 ?_
  refine l_mI h (c_X8_struck σM (sx xs (i + 1)) (sx_32 _ _) hI.2.1.2.1 hI.wm) (by decide) lm_RL_44 rfl dL_law_409 rfl (Nat.le_of_ble_eq_true rfl) (fun zm sM pm => ?_)
  obtain ⟨ex, rx⟩ := px
  obtain ⟨em, rm⟩ := pm
  rw [hI.1] at ex rx
  rw [hI.2.1.1] at em
  subst ex; subst em
  refine k_same (tgt := 1203) h.1 dL_law_412 (by decide) ?_
  exact kk τ sX sM ⟨rx, hI.sc rm, hI.2.2⟩
set_option maxRecDepth 100000 in
set_option maxHeartbeats 2000000 in
theorem la_7 {x : kX} {l : Launch} {D : va_G} {cs : mC} {aX aM : Int → Nat} {b L : Nat} {xs : Nat → Int32} {C S : Nat} (h : lOk x l D cs aX aM b L xs C S) (hL : L ≤ 3072) {i : Int} {τ σX σM : mS} (i0 : 0 ≤ i) (i6 : i + 6 ≤ (L : Int)) (hI : lInv τ σX σM) (kk : ∀ τ1 sX sM : mS, lInv τ1 sX sM → kG x 1203 [(0, .ref b), (1, .ref (aX 0)), (2, .ref (aM 0)), (3, mI i)] [] (lJ D x.1.2.2.2.2 (mW (gX D cs aX) sX) (mW (gM D cs aM) sM)) C S) : kG x 417 [(0, .ref b), (1, .ref (aX 0)), (2, .ref (aM 0)), (3, mI i)] [] (lJ D x.1.2.2.2.2 (mW (gX D cs aX) σX) (mW (gM D cs aM) σM)) C S := by
  refine k_aload_n h.1 dL_law_417 rfl ?_
  refine l_xI h (c_X7_passing σX   hI.w) (by decide) lm_RL_45 rfl dL_law_418 rfl (Nat.le_of_ble_eq_true rfl) (fun zx sX px => ?_)
  refine k_aload_n h.1 dL_law_421 rfl ?_
  refine l_mI h (c_X8_passing σM   hI.2.1.2.1 hI.wm) (by decide) lm_RL_49 rfl dL_law_422 rfl (Nat.le_of_ble_eq_true rfl) (fun zm sM pm => ?_)
  obtain ⟨ex, rx⟩ := px
  obtain ⟨em, rm⟩ := pm
  rw [hI.1] at ex rx
  rw [hI.2.1.1] at em
  subst ex; subst em
  refine k_same (tgt := 1203) h.1 dL_law_425 (by decide) ?_
  exact kk τ sX sM ⟨rx, hI.sc rm, hI.2.2⟩
set_option maxRecDepth 100000 in
set_option maxHeartbeats 2000000 in
theorem la_8 {x : kX} {l : Launch} {D : va_G} {cs : mC} {aX aM : Int → Nat} {b L : Nat} {xs : Nat → Int32} {C S : Nat} (h : lOk x l D cs aX aM b L xs C S) (hL : L ≤ 3072) {i : Int} {τ σX σM : mS} (i0 : 0 ≤ i) (i6 : i + 6 ≤ (L : Int)) (hI : lInv τ σX σM) (kk : ∀ τ1 sX sM : mS, lInv τ1 sX sM → kG x 1203 [(0, .ref b), (1, .ref (aX 0)), (2, .ref (aM 0)), (3, mI i)] [] (lJ D x.1.2.2.2.2 (mW (gX D cs aX) sX) (mW (gM D cs aM) sM)) C S) : kG x 430 [(0, .ref b), (1, .ref (aX 0)), (2, .ref (aM 0)), (3, mI i)] [] (lJ D x.1.2.2.2.2 (mW (gX D cs aX) σX) (mW (gM D cs aM) σM)) C S := by
  refine k_aload_n h.1 dL_law_430 rfl ?_
  refine k_aload_n h.1 dL_law_431 rfl ?_
  refine k_iload_n h.1 dL_law_432 rfl ?_
  refine k_iconst h.1 dL_law_433 rfl ?_
  refine k_iadd h.1 dL_law_434 ?_
  refine l_sld h (by omega) (by omega) hL dL_law_435 ?_
  refine l_xI h (c_X7_force σX (sx xs (i + 1)) (sx_32 _ _) hI.w) (by decide) lm_RL_50 rfl dL_law_436 rfl (Nat.le_of_ble_eq_true rfl) (fun zx sX px => ?_)
  refine k_aload_n h.1 dL_law_439 rfl ?_
  refine k_aload_n h.1 dL_law_440 rfl ?_
  refine k_iload_n h.1 dL_law_441 rfl ?_
  refine k_iconst h.1 dL_law_442 rfl ?_
  refine k_iadd h.1 dL_law_443 ?_
  refine l_sld h (by omega) (by omega) hL dL_law_444 ?_
  refine l_mI h (c_X8_force σM (sx xs (i + 1)) (sx_32 _ _) hI.2.1.2.1 hI.wm) (by decide) lm_RL_53 rfl dL_law_445 rfl (Nat.le_of_ble_eq_true rfl) (fun zm sM pm => ?_)
  obtain ⟨ex, rx⟩ := px
  obtain ⟨em, rm⟩ := pm
  rw [hI.1] at ex rx
  rw [hI.2.1.1] at em
  subst ex; subst em
  refine k_same (tgt := 1203) h.1 dL_law_448 (by decide) ?_
  exact kk τ sX sM ⟨rx, hI.sc rm, hI.2.2⟩
set_option maxRecDepth 100000 in
set_option maxHeartbeats 2000000 in
theorem la_9 {x : kX} {l : Launch} {D : va_G} {cs : mC} {aX aM : Int → Nat} {b L : Nat} {xs : Nat → Int32} {C S : Nat} (h : lOk x l D cs aX aM b L xs C S) (hL : L ≤ 3072) {i : Int} {τ σX σM : mS} (i0 : 0 ≤ i) (i6 : i + 6 ≤ (L : Int)) (hI : lInv τ σX σM) (kk : ∀ τ1 sX sM : mS, lInv τ1 sX sM → kG x 1203 [(0, .ref b), (1, .ref (aX 0)), (2, .ref (aM 0)), (3, mI i)] [] (lJ D x.1.2.2.2.2 (mW (gX D cs aX) sX) (mW (gM D cs aM) sM)) C S) : kG x 453 [(0, .ref b), (1, .ref (aX 0)), (2, .ref (aM 0)), (3, mI i)] [] (lJ D x.1.2.2.2.2 (mW (gX D cs aX) σX) (mW (gM D cs aM) σM)) C S := by
  refine k_aload_n h.1 dL_law_453 rfl ?_
  refine k_aload_n h.1 dL_law_454 rfl ?_
  refine k_iload_n h.1 dL_law_455 rfl ?_
  refine k_iconst h.1 dL_law_456 rfl ?_
  refine k_iadd h.1 dL_law_457 ?_
  refine l_sld h (by omega) (by omega) hL dL_law_458 ?_
  refine l_xI h (c_X7_holds σX (sx xs (i + 1)) (sx_32 _ _) hI.w) (by decide) lm_RL_54 rfl dL_law_459 rfl (Nat.le_of_ble_eq_true rfl) (fun zx sX px => ?_)
  refine k_aload_n h.1 dL_law_462 rfl ?_
  refine k_aload_n h.1 dL_law_463 rfl ?_
  refine k_iload_n h.1 dL_law_464 rfl ?_
  refine k_iconst h.1 dL_law_465 rfl ?_
  refine k_iadd h.1 dL_law_466 ?_
  refine l_sld h (by omega) (by omega) hL dL_law_467 ?_
  refine l_mI h (c_X8_holds σM (sx xs (i + 1)) (sx_32 _ _) hI.2.1.2.1 hI.wm) (by decide) lm_RL_57 rfl dL_law_468 rfl (Nat.le_of_ble_eq_true rfl) (fun zm sM pm => ?_)
  obtain ⟨ex, rx⟩ := px
  obtain ⟨em, rm⟩ := pm
  rw [hI.1] at ex rx
  rw [hI.2.1.1] at em
  subst ex; subst em
  refine k_same (tgt := 1203) h.1 dL_law_471 (by decide) ?_
  exact kk τ sX sM ⟨rx, hI.sc rm, hI.2.2⟩
set_option maxRecDepth 100000 in
set_option maxHeartbeats 2000000 in
theorem la_10 {x : kX} {l : Launch} {D : va_G} {cs : mC} {aX aM : Int → Nat} {b L : Nat} {xs : Nat → Int32} {C S : Nat} (h : lOk x l D cs aX aM b L xs C S) (hL : L ≤ 3072) {i : Int} {τ σX σM : mS} (i0 : 0 ≤ i) (i6 : i + 6 ≤ (L : Int)) (hI : lInv τ σX σM) (kk : ∀ τ1 sX sM : mS, lInv τ1 sX sM → kG x 1203 [(0, .ref b), (1, .ref (aX 0)), (2, .ref (aM 0)), (3, mI i)] [] (lJ D x.1.2.2.2.2 (mW (gX D cs aX) sX) (mW (gM D cs aM) sM)) C S) : kG x 476 [(0, .ref b), (1, .ref (aX 0)), (2, .ref (aM 0)), (3, mI i)] [] (lJ D x.1.2.2.2.2 (mW (gX D cs aX) σX) (mW (gM D cs aM) σM)) C S := by
  refine k_aload_n h.1 dL_law_476 rfl ?_
  refine k_aload_n h.1 dL_law_477 rfl ?_
  refine k_iload_n h.1 dL_law_478 rfl ?_
  refine k_iconst h.1 dL_law_479 rfl ?_
  refine k_iadd h.1 dL_law_480 ?_
  refine l_sld h (by omega) (by omega) hL dL_law_481 ?_
  refine k_aload_n h.1 dL_law_482 rfl ?_
  refine k_iload_n h.1 dL_law_483 rfl ?_
  refine k_iconst h.1 dL_law_484 rfl ?_
  refine k_iadd h.1 dL_law_485 ?_
  refine l_sld h (by omega) (by omega) hL dL_law_486 ?_
  refine k_aload_n h.1 dL_law_487 rfl ?_
  refine k_iload_n h.1 dL_law_488 rfl ?_
  refine k_iconst h.1 dL_law_489 rfl ?_
  refine k_iadd h.1 dL_law_490 ?_
  refine l_sld h (by omega) (by omega) hL dL_law_491 ?_
  refine k_aload_n h.1 dL_law_492 rfl ?_
  refine k_iload_n h.1 dL_law_493 rfl ?_
  refine k_iconst h.1 dL_law_494 rfl ?_
  refine k_iadd h.1 dL_law_495 ?_
  refine l_sld h (by omega) (by omega) hL dL_law_496 ?_
  refine l_xI h (c_X7_chronicle σX (sx xs (i + 1)) (sx xs (i + 2)) (sx xs (i + 3)) (sx xs (i + 4)) (sx_32 _ _) (sx_32 _ _) (sx_32 _ _) (sx_32 _ _) hI.w) (by decide) lm_RL_58 rfl dL_law_497 rfl (Nat.le_of_ble_eq_true rfl) (fun zx sX px => ?_)
  refine k_aload_n h.1 dL_law_500 rfl ?_
  refine k_aload_n h.1 dL_law_501 rfl ?_
  refine k_iload_n h.1 dL_law_502 rfl ?_
  refine k_iconst h.1 dL_law_503 rfl ?_
  refine k_iadd h.1 dL_law_504 ?_
  refine l_sld h (by omega) (by omega) hL dL_law_505 ?_
  refine k_aload_n h.1 dL_law_506 rfl ?_
  refine k_iload_n h.1 dL_law_507 rfl ?_
  refine k_iconst h.1 dL_law_508 rfl ?_
  refine k_iadd h.1 dL_law_509 ?_
  refine l_sld h (by omega) (by omega) hL dL_law_510 ?_
  refine k_aload_n h.1 dL_law_511 rfl ?_
  refine k_iload_n h.1 dL_law_512 rfl ?_
  refine k_iconst h.1 dL_law_513 rfl ?_
  refine k_iadd h.1 dL_law_514 ?_
  refine l_sld h (by omega) (by omega) hL dL_law_515 ?_
  refine k_aload_n h.1 dL_law_516 rfl ?_
  refine k_iload_n h.1 dL_law_517 rfl ?_
  refine k_iconst h.1 dL_law_518 rfl ?_
  refine k_iadd h.1 dL_law_519 ?_
  refine l_sld h (by omega) (by omega) hL dL_law_520 ?_
  refine l_mI h (c_X8_chronicle σM (sx xs (i + 1)) (sx xs (i + 2)) (sx xs (i + 3)) (sx xs (i + 4)) (sx_32 _ _) (sx_32 _ _) (sx_32 _ _) (sx_32 _ _) hI.ok) (by decide) lm_RL_61 rfl dL_law_521 rfl (Nat.le_of_ble_eq_true rfl) (fun zm sM pm => ?_)
  obtain ⟨ex, rx⟩ := px
  obtain ⟨em, rm⟩ := pm
  rw [hI.1] at ex rx
  rw [hI.2.1.1] at em rm
  subst ex; subst em
  refine k_same (tgt := 1203) h.1 dL_law_524 (by decide) ?_
  exact kk (ns_chron τ (sx xs (i + 1)) (sx xs (i + 2)) (sx xs (i + 3)) (sx xs (i + 4))) sX sM ⟨rx, rm, (kw_chron hI.2.2 (sx xs (i + 1)) (sx xs (i + 2)) (sx xs (i + 3)) (sx xs (i + 4)))⟩
set_option maxRecDepth 100000 in
set_option maxHeartbeats 2000000 in
theorem la_11 {x : kX} {l : Launch} {D : va_G} {cs : mC} {aX aM : Int → Nat} {b L : Nat} {xs : Nat → Int32} {C S : Nat} (h : lOk x l D cs aX aM b L xs C S) (hL : L ≤ 3072) {i : Int} {τ σX σM : mS} (i0 : 0 ≤ i) (i6 : i + 6 ≤ (L : Int)) (hI : lInv τ σX σM) (kk : ∀ τ1 sX sM : mS, lInv τ1 sX sM → kG x 1203 [(0, .ref b), (1, .ref (aX 0)), (2, .ref (aM 0)), (3, mI i)] [] (lJ D x.1.2.2.2.2 (mW (gX D cs aX) sX) (mW (gM D cs aM) sM)) C S) : kG x 529 [(0, .ref b), (1, .ref (aX 0)), (2, .ref (aM 0)), (3, mI i)] [] (lJ D x.1.2.2.2.2 (mW (gX D cs aX) σX) (mW (gM D cs aM) σM)) C S := by
  refine k_aload_n h.1 dL_law_529 rfl ?_
  refine k_aload_n h.1 dL_law_530 rfl ?_
  refine k_iload_n h.1 dL_law_531 rfl ?_
  refine k_iconst h.1 dL_law_532 rfl ?_
  refine k_iadd h.1 dL_law_533 ?_
  refine l_sld h (by omega) (by omega) hL dL_law_534 ?_
  refine k_aload_n h.1 dL_law_535 rfl ?_
  refine k_iload_n h.1 dL_law_536 rfl ?_
  refine k_iconst h.1 dL_law_537 rfl ?_
  refine k_iadd h.1 dL_law_538 ?_
  refine l_sld h (by omega) (by omega) hL dL_law_539 ?_
  refine l_xI h (c_X7_buy σX (sx xs (i + 1)) (sx xs (i + 2)) (sx_32 _ _) (sx_32 _ _) hI.w) (by decide) lm_RL_62 rfl dL_law_540 rfl (Nat.le_of_ble_eq_true rfl) (fun zx sX px => ?_)
  refine k_aload_n h.1 dL_law_543 rfl ?_
  refine k_aload_n h.1 dL_law_544 rfl ?_
  refine k_iload_n h.1 dL_law_545 rfl ?_
  refine k_iconst h.1 dL_law_546 rfl ?_
  refine k_iadd h.1 dL_law_547 ?_
  refine l_sld h (by omega) (by omega) hL dL_law_548 ?_
  refine k_aload_n h.1 dL_law_549 rfl ?_
  refine k_iload_n h.1 dL_law_550 rfl ?_
  refine k_iconst h.1 dL_law_551 rfl ?_
  refine k_iadd h.1 dL_law_552 ?_
  refine l_sld h (by omega) (by omega) hL dL_law_553 ?_
  refine l_mI h (c_X8_buy σM (sx xs (i + 1)) (sx xs (i + 2)) (sx_32 _ _) (sx_32 _ _) hI.2.1.2.1 hI.wm) (by decide) lm_RL_65 rfl dL_law_554 rfl (Nat.le_of_ble_eq_true rfl) (fun zm sM pm => ?_)
  obtain ⟨ex, rx⟩ := px
  obtain ⟨em, rm⟩ := pm
  rw [hI.1] at ex rx
  rw [hI.2.1.1] at em
  subst ex; subst em
  refine k_same (tgt := 1203) h.1 dL_law_557 (by decide) ?_
  exact kk τ sX sM ⟨rx, hI.sc rm, hI.2.2⟩
set_option maxRecDepth 100000 in
set_option maxHeartbeats 2000000 in
theorem la_12 {x : kX} {l : Launch} {D : va_G} {cs : mC} {aX aM : Int → Nat} {b L : Nat} {xs : Nat → Int32} {C S : Nat} (h : lOk x l D cs aX aM b L xs C S) (hL : L ≤ 3072) {i : Int} {τ σX σM : mS} (i0 : 0 ≤ i) (i6 : i + 6 ≤ (L : Int)) (hI : lInv τ σX σM) (kk : ∀ τ1 sX sM : mS, lInv τ1 sX sM → kG x 1203 [(0, .ref b), (1, .ref (aX 0)), (2, .ref (aM 0)), (3, mI i)] [] (lJ D x.1.2.2.2.2 (mW (gX D cs aX) sX) (mW (gM D cs aM) sM)) C S) : kG x 562 [(0, .ref b), (1, .ref (aX 0)), (2, .ref (aM 0)), (3, mI i)] [] (lJ D x.1.2.2.2.2 (mW (gX D cs aX) σX) (mW (gM D cs aM) σM)) C S := by
  refine k_aload_n h.1 dL_law_562 rfl ?_
  refine k_aload_n h.1 dL_law_563 rfl ?_
  refine k_iload_n h.1 dL_law_564 rfl ?_
  refine k_iconst h.1 dL_law_565 rfl ?_
  refine k_iadd h.1 dL_law_566 ?_
  refine l_sld h (by omega) (by omega) hL dL_law_567 ?_
  refine k_aload_n h.1 dL_law_568 rfl ?_
  refine k_iload_n h.1 dL_law_569 rfl ?_
  refine k_iconst h.1 dL_law_570 rfl ?_
  refine k_iadd h.1 dL_law_571 ?_
  refine l_sld h (by omega) (by omega) hL dL_law_572 ?_
  refine l_xI h (c_X7_when σX (sx xs (i + 1)) (sx xs (i + 2)) (sx_32 _ _) (sx_32 _ _) hI.w) (by decide) lm_RL_66 rfl dL_law_573 rfl (Nat.le_of_ble_eq_true rfl) (fun zx sX px => ?_)
  refine k_aload_n h.1 dL_law_576 rfl ?_
  refine k_aload_n h.1 dL_law_577 rfl ?_
  refine k_iload_n h.1 dL_law_578 rfl ?_
  refine k_iconst h.1 dL_law_579 rfl ?_
  refine k_iadd h.1 dL_law_580 ?_
  refine l_sld h (by omega) (by omega) hL dL_law_581 ?_
  refine k_aload_n h.1 dL_law_582 rfl ?_
  refine k_iload_n h.1 dL_law_583 rfl ?_
  refine k_iconst h.1 dL_law_584 rfl ?_
  refine k_iadd h.1 dL_law_585 ?_
  refine l_sld h (by omega) (by omega) hL dL_law_586 ?_
  refine l_mI h (c_X8_when σM (sx xs (i + 1)) (sx xs (i + 2)) (sx_32 _ _) (sx_32 _ _) hI.2.1.2.1 hI.wm) (by decide) lm_RL_69 rfl dL_law_587 rfl (Nat.le_of_ble_eq_true rfl) (fun zm sM pm => ?_)
  obtain ⟨ex, rx⟩ := px
  obtain ⟨em, rm⟩ := pm
  rw [hI.1] at ex rx
  rw [hI.2.1.1] at em
  subst ex; subst em
  refine k_same (tgt := 1203) h.1 dL_law_590 (by decide) ?_
  exact kk τ sX sM ⟨rx, hI.sc rm, hI.2.2⟩
set_option maxRecDepth 100000 in
set_option maxHeartbeats 2000000 in
theorem la_13 {x : kX} {l : Launch} {D : va_G} {cs : mC} {aX aM : Int → Nat} {b L : Nat} {xs : Nat → Int32} {C S : Nat} (h : lOk x l D cs aX aM b L xs C S) (hL : L ≤ 3072) {i : Int} {τ σX σM : mS} (i0 : 0 ≤ i) (i6 : i + 6 ≤ (L : Int)) (hI : lInv τ σX σM) (kk : ∀ τ1 sX sM : mS, lInv τ1 sX sM → kG x 1203 [(0, .ref b), (1, .ref (aX 0)), (2, .ref (aM 0)), (3, mI i)] [] (lJ D x.1.2.2.2.2 (mW (gX D cs aX) sX) (mW (gM D cs aM) sM)) C S) : kG x 595 [(0, .ref b), (1, .ref (aX 0)), (2, .ref (aM 0)), (3, mI i)] [] (lJ D x.1.2.2.2.2 (mW (gX D cs aX) σX) (mW (gM D cs aM) σM)) C S := by
  refine k_aload_n h.1 dL_law_595 rfl ?_
  refine k_aload_n h.1 dL_law_596 rfl ?_
  refine k_iload_n h.1 dL_law_597 rfl ?_
  refine k_iconst h.1 dL_law_598 rfl ?_
  refine k_iadd h.1 dL_law_599 ?_
  refine l_sld h (by omega) (by omega) hL dL_law_600 ?_
  refine k_aload_n h.1 dL_law_601 rfl ?_
  refine k_iload_n h.1 dL_law_602 rfl ?_
  refine k_iconst h.1 dL_law_603 rfl ?_
  refine k_iadd h.1 dL_law_604 ?_
  refine l_sld h (by omega) (by omega) hL dL_law_605 ?_
  refine l_xI h (c_X7_longest σX (sx xs (i + 1)) (sx xs (i + 2)) (sx_32 _ _) (sx_32 _ _) hI.w) (by decide) lm_RL_70 rfl dL_law_606 rfl (Nat.le_of_ble_eq_true rfl) (fun zx sX px => ?_)
  refine k_aload_n h.1 dL_law_609 rfl ?_
  refine k_aload_n h.1 dL_law_610 rfl ?_
  refine k_iload_n h.1 dL_law_611 rfl ?_
  refine k_iconst h.1 dL_law_612 rfl ?_
  refine k_iadd h.1 dL_law_613 ?_
  refine l_sld h (by omega) (by omega) hL dL_law_614 ?_
  refine k_aload_n h.1 dL_law_615 rfl ?_
  refine k_iload_n h.1 dL_law_616 rfl ?_
  refine k_iconst h.1 dL_law_617 rfl ?_
  refine k_iadd h.1 dL_law_618 ?_
  refine l_sld h (by omega) (by omega) hL dL_law_619 ?_
  refine l_mI h (c_X8_longest σM (sx xs (i + 1)) (sx xs (i + 2)) (sx_32 _ _) (sx_32 _ _) hI.2.1.2.1 hI.wm) (by decide) lm_RL_73 rfl dL_law_620 rfl (Nat.le_of_ble_eq_true rfl) (fun zm sM pm => ?_)
  obtain ⟨ex, rx⟩ := px
  obtain ⟨em, rm⟩ := pm
  rw [hI.1] at ex rx
  rw [hI.2.1.1] at em
  subst ex; subst em
  refine k_same (tgt := 1203) h.1 dL_law_623 (by decide) ?_
  exact kk τ sX sM ⟨rx, hI.sc rm, hI.2.2⟩
set_option maxRecDepth 100000 in
set_option maxHeartbeats 2000000 in
theorem la_14 {x : kX} {l : Launch} {D : va_G} {cs : mC} {aX aM : Int → Nat} {b L : Nat} {xs : Nat → Int32} {C S : Nat} (h : lOk x l D cs aX aM b L xs C S) (hL : L ≤ 3072) {i : Int} {τ σX σM : mS} (i0 : 0 ≤ i) (i6 : i + 6 ≤ (L : Int)) (hI : lInv τ σX σM) (kk : ∀ τ1 sX sM : mS, lInv τ1 sX sM → kG x 1203 [(0, .ref b), (1, .ref (aX 0)), (2, .ref (aM 0)), (3, mI i)] [] (lJ D x.1.2.2.2.2 (mW (gX D cs aX) sX) (mW (gM D cs aM) sM)) C S) : kG x 628 [(0, .ref b), (1, .ref (aX 0)), (2, .ref (aM 0)), (3, mI i)] [] (lJ D x.1.2.2.2.2 (mW (gX D cs aX) σX) (mW (gM D cs aM) σM)) C S := by
  refine k_aload_n h.1 dL_law_628 rfl ?_
  refine k_aload_n h.1 dL_law_629 rfl ?_
  refine k_iload_n h.1 dL_law_630 rfl ?_
  refine k_iconst h.1 dL_law_631 rfl ?_
  refine k_iadd h.1 dL_law_632 ?_
  refine l_sld h (by omega) (by omega) hL dL_law_633 ?_
  refine l_xI h (c_X7_worth σX (sx xs (i + 1)) (sx_32 _ _) hI.w) (by decide) lm_RL_74 rfl dL_law_634 rfl (Nat.le_of_ble_eq_true rfl) (fun zx sX px => ?_)
  refine k_aload_n h.1 dL_law_637 rfl ?_
  refine k_aload_n h.1 dL_law_638 rfl ?_
  refine k_iload_n h.1 dL_law_639 rfl ?_
  refine k_iconst h.1 dL_law_640 rfl ?_
  refine k_iadd h.1 dL_law_641 ?_
  refine l_sld h (by omega) (by omega) hL dL_law_642 ?_
  refine l_mI h (c_X8_worth σM (sx xs (i + 1)) (sx_32 _ _) hI.2.1.2.1 hI.wm) (by decide) lm_RL_77 rfl dL_law_643 rfl (Nat.le_of_ble_eq_true rfl) (fun zm sM pm => ?_)
  obtain ⟨ex, rx⟩ := px
  obtain ⟨em, rm⟩ := pm
  rw [hI.1] at ex rx
  rw [hI.2.1.1] at em
  subst ex; subst em
  refine k_same (tgt := 1203) h.1 dL_law_646 (by decide) ?_
  exact kk τ sX sM ⟨rx, hI.sc rm, hI.2.2⟩
set_option maxRecDepth 100000 in
set_option maxHeartbeats 2000000 in
theorem la_15 {x : kX} {l : Launch} {D : va_G} {cs : mC} {aX aM : Int → Nat} {b L : Nat} {xs : Nat → Int32} {C S : Nat} (h : lOk x l D cs aX aM b L xs C S) (hL : L ≤ 3072) {i : Int} {τ σX σM : mS} (i0 : 0 ≤ i) (i6 : i + 6 ≤ (L : Int)) (hI : lInv τ σX σM) (kk : ∀ τ1 sX sM : mS, lInv τ1 sX sM → kG x 1203 [(0, .ref b), (1, .ref (aX 0)), (2, .ref (aM 0)), (3, mI i)] [] (lJ D x.1.2.2.2.2 (mW (gX D cs aX) sX) (mW (gM D cs aM) sM)) C S) : kG x 651 [(0, .ref b), (1, .ref (aX 0)), (2, .ref (aM 0)), (3, mI i)] [] (lJ D x.1.2.2.2.2 (mW (gX D cs aX) σX) (mW (gM D cs aM) σM)) C S := by
  refine k_aload_n h.1 dL_law_651 rfl ?_
  refine k_aload_n h.1 dL_law_652 rfl ?_
  refine k_iload_n h.1 dL_law_653 rfl ?_
  refine k_iconst h.1 dL_law_654 rfl ?_
  refine k_iadd h.1 dL_law_655 ?_
  refine l_sld h (by omega) (by omega) hL dL_law_656 ?_
  refine k_aload_n h.1 dL_law_657 rfl ?_
  refine k_iload_n h.1 dL_law_658 rfl ?_
  refine k_iconst h.1 dL_law_659 rfl ?_
  refine k_iadd h.1 dL_law_660 ?_
  refine l_sld h (by omega) (by omega) hL dL_law_661 ?_
  refine k_aload_n h.1 dL_law_662 rfl ?_
  refine k_iload_n h.1 dL_law_663 rfl ?_
  refine k_iconst h.1 dL_law_664 rfl ?_
  refine k_iadd h.1 dL_law_665 ?_
  refine l_sld h (by omega) (by omega) hL dL_law_666 ?_
  refine k_if_eq (tgt := 674) h.1 dL_law_667 (by decide) (sx_32 _ _) (fun c667 => ?_) (fun c667 => ?_)
  · refine k_iconst h.1 dL_law_674 rfl ?_
    refine l_xI h (c_X7_reading σX (sx xs (i + 1)) (sx xs (i + 2)) 0 (sx_32 _ _) (sx_32 _ _) (Or.inl rfl) hI.w) (by decide) lm_RL_78 rfl dL_law_675 rfl (Nat.le_of_ble_eq_true rfl) (fun zx sX px => ?_)
    refine k_aload_n h.1 dL_law_678 rfl ?_
    refine k_aload_n h.1 dL_law_679 rfl ?_
    refine k_iload_n h.1 dL_law_680 rfl ?_
    refine k_iconst h.1 dL_law_681 rfl ?_
    refine k_iadd h.1 dL_law_682 ?_
    refine l_sld h (by omega) (by omega) hL dL_law_683 ?_
    refine k_aload_n h.1 dL_law_684 rfl ?_
    refine k_iload_n h.1 dL_law_685 rfl ?_
    refine k_iconst h.1 dL_law_686 rfl ?_
    refine k_iadd h.1 dL_law_687 ?_
    refine l_sld h (by omega) (by omega) hL dL_law_688 ?_
    refine k_aload_n h.1 dL_law_689 rfl ?_
    refine k_iload_n h.1 dL_law_690 rfl ?_
    refine k_iconst h.1 dL_law_691 rfl ?_
    refine k_iadd h.1 dL_law_692 ?_
    refine l_sld h (by omega) (by omega) hL dL_law_693 ?_
    refine k_if_eq (tgt := 701) h.1 dL_law_694 (by decide) (sx_32 _ _) (fun c694 => ?_) (fun c694 => ?_)
    · refine k_iconst h.1 dL_law_701 rfl ?_
      refine l_mI h (c_X8_reading σM (sx xs (i + 1)) (sx xs (i + 2)) 0 (sx_32 _ _) (sx_32 _ _) (Or.inl rfl) hI.ok) (by decide) lm_RL_82 rfl dL_law_702 rfl (Nat.le_of_ble_eq_true rfl) (fun zm sM pm => ?_)
      obtain ⟨ex, rx⟩ := px
      obtain ⟨em, rm⟩ := pm
      rw [hI.1] at ex rx
      rw [hI.2.1.1] at em rm
      subst ex; subst em
      refine k_same (tgt := 1203) h.1 dL_law_705 (by decide) ?_
      exact kk (ns_reading τ (sx xs (i + 1)) (sx xs (i + 2)) 0) sX sM ⟨rx, rm, (kw_reading hI.2.2 (sx xs (i + 1)) (sx xs (i + 2)) (Or.inl rfl))⟩
    · exact absurd c667 c694
  · refine k_iconst h.1 dL_law_670 rfl ?_
    refine k_goto (tgt := 675) h.1 dL_law_671 (by decide) ?_
    refine l_xI h (c_X7_reading σX (sx xs (i + 1)) (sx xs (i + 2)) 1 (sx_32 _ _) (sx_32 _ _) (Or.inr rfl) hI.w) (by decide) lm_RL_78 rfl dL_law_675 rfl (Nat.le_of_ble_eq_true rfl) (fun zx sX px => ?_)
    refine k_aload_n h.1 dL_law_678 rfl ?_
    refine k_aload_n h.1 dL_law_679 rfl ?_
    refine k_iload_n h.1 dL_law_680 rfl ?_
    refine k_iconst h.1 dL_law_681 rfl ?_
    refine k_iadd h.1 dL_law_682 ?_
    refine l_sld h (by omega) (by omega) hL dL_law_683 ?_
    refine k_aload_n h.1 dL_law_684 rfl ?_
    refine k_iload_n h.1 dL_law_685 rfl ?_
    refine k_iconst h.1 dL_law_686 rfl ?_
    refine k_iadd h.1 dL_law_687 ?_
    refine l_sld h (by omega) (by omega) hL dL_law_688 ?_
    refine k_aload_n h.1 dL_law_689 rfl ?_
    refine k_iload_n h.1 dL_law_690 rfl ?_
    refine k_iconst h.1 dL_law_691 rfl ?_
    refine k_iadd h.1 dL_law_692 ?_
    refine l_sld h (by omega) (by omega) hL dL_law_693 ?_
    refine k_if_eq (tgt := 701) h.1 dL_law_694 (by decide) (sx_32 _ _) (fun c694 => ?_) (fun c694 => ?_)
    · exact absurd c694 c667
    · refine k_iconst h.1 dL_law_697 rfl ?_
      refine k_goto (tgt := 702) h.1 dL_law_698 (by decide) ?_
      refine l_mI h (c_X8_reading σM (sx xs (i + 1)) (sx xs (i + 2)) 1 (sx_32 _ _) (sx_32 _ _) (Or.inr rfl) hI.ok) (by decide) lm_RL_82 rfl dL_law_702 rfl (Nat.le_of_ble_eq_true rfl) (fun zm sM pm => ?_)
      obtain ⟨ex, rx⟩ := px
      obtain ⟨em, rm⟩ := pm
      rw [hI.1] at ex rx
      rw [hI.2.1.1] at em rm
      subst ex; subst em
      refine k_same (tgt := 1203) h.1 dL_law_705 (by decide) ?_
      exact kk (ns_reading τ (sx xs (i + 1)) (sx xs (i + 2)) 1) sX sM ⟨rx, rm, (kw_reading hI.2.2 (sx xs (i + 1)) (sx xs (i + 2)) (Or.inr rfl))⟩
set_option maxRecDepth 100000 in
set_option maxHeartbeats 2000000 in
theorem la_16 {x : kX} {l : Launch} {D : va_G} {cs : mC} {aX aM : Int → Nat} {b L : Nat} {xs : Nat → Int32} {C S : Nat} (h : lOk x l D cs aX aM b L xs C S) (hL : L ≤ 3072) {i : Int} {τ σX σM : mS} (i0 : 0 ≤ i) (i6 : i + 6 ≤ (L : Int)) (hI : lInv τ σX σM) (kk : ∀ τ1 sX sM : mS, lInv τ1 sX sM → kG x 1203 [(0, .ref b), (1, .ref (aX 0)), (2, .ref (aM 0)), (3, mI i)] [] (lJ D x.1.2.2.2.2 (mW (gX D cs aX) sX) (mW (gM D cs aM) sM)) C S) : kG x 710 [(0, .ref b), (1, .ref (aX 0)), (2, .ref (aM 0)), (3, mI i)] [] (lJ D x.1.2.2.2.2 (mW (gX D cs aX) σX) (mW (gM D cs aM) σM)) C S := by
  refine k_aload_n h.1 dL_law_710 rfl ?_
  refine k_aload_n h.1 dL_law_711 rfl ?_
  refine k_iload_n h.1 dL_law_712 rfl ?_
  refine k_iconst h.1 dL_law_713 rfl ?_
  refine k_iadd h.1 dL_law_714 ?_
  refine l_sld h (by omega) (by omega) hL dL_law_715 ?_
  refine l_xI h (c_X7_back σX (sx xs (i + 1)) (sx_32 _ _) hI.w) (by decide) lm_RL_83 rfl dL_law_716 rfl (Nat.le_of_ble_eq_true rfl) (fun zx sX px => ?_)
  refine k_aload_n h.1 dL_law_719 rfl ?_
  refine k_aload_n h.1 dL_law_720 rfl ?_
  refine k_iload_n h.1 dL_law_721 rfl ?_
  refine k_iconst h.1 dL_law_722 rfl ?_
  refine k_iadd h.1 dL_law_723 ?_
  refine l_sld h (by omega) (by omega) hL dL_law_724 ?_
  refine l_mI h (c_X8_back σM (sx xs (i + 1)) (sx_32 _ _) hI.ok) (by decide) lm_RL_86 rfl dL_law_725 rfl (Nat.le_of_ble_eq_true rfl) (fun zm sM pm => ?_)
  obtain ⟨ex, rx⟩ := px
  obtain ⟨em, rm⟩ := pm
  rw [hI.1] at ex rx
  rw [hI.2.1.1] at em rm
  subst ex; subst em
  refine k_same (tgt := 1203) h.1 dL_law_728 (by decide) ?_
  exact kk (ns_back τ (sx xs (i + 1))) sX sM ⟨rx, rm, (kw_back hI.2.2 (sx xs (i + 1)))⟩
set_option maxRecDepth 100000 in
set_option maxHeartbeats 2000000 in
theorem la_17 {x : kX} {l : Launch} {D : va_G} {cs : mC} {aX aM : Int → Nat} {b L : Nat} {xs : Nat → Int32} {C S : Nat} (h : lOk x l D cs aX aM b L xs C S) (hL : L ≤ 3072) {i : Int} {τ σX σM : mS} (i0 : 0 ≤ i) (i6 : i + 6 ≤ (L : Int)) (hI : lInv τ σX σM) (kk : ∀ τ1 sX sM : mS, lInv τ1 sX sM → kG x 1203 [(0, .ref b), (1, .ref (aX 0)), (2, .ref (aM 0)), (3, mI i)] [] (lJ D x.1.2.2.2.2 (mW (gX D cs aX) sX) (mW (gM D cs aM) sM)) C S) : kG x 733 [(0, .ref b), (1, .ref (aX 0)), (2, .ref (aM 0)), (3, mI i)] [] (lJ D x.1.2.2.2.2 (mW (gX D cs aX) σX) (mW (gM D cs aM) σM)) C S := by
  refine k_aload_n h.1 dL_law_733 rfl ?_
  refine l_xI h (c_X7_spans σX   hI.w) (by decide) lm_RL_87 rfl dL_law_734 rfl (Nat.le_of_ble_eq_true rfl) (fun zx sX px => ?_)
  refine k_aload_n h.1 dL_law_737 rfl ?_
  refine l_mI h (c_X8_spans σM   hI.2.1.2.1 hI.wm) (by decide) lm_RL_90 rfl dL_law_738 rfl (Nat.le_of_ble_eq_true rfl) (fun zm sM pm => ?_)
  obtain ⟨ex, rx⟩ := px
  obtain ⟨em, rm⟩ := pm
  rw [hI.1] at ex rx
  rw [hI.2.1.1] at em
  subst ex; subst em
  refine k_same (tgt := 1203) h.1 dL_law_741 (by decide) ?_
  exact kk τ sX sM ⟨rx, hI.sc rm, hI.2.2⟩
set_option maxRecDepth 100000 in
set_option maxHeartbeats 2000000 in
theorem la_18 {x : kX} {l : Launch} {D : va_G} {cs : mC} {aX aM : Int → Nat} {b L : Nat} {xs : Nat → Int32} {C S : Nat} (h : lOk x l D cs aX aM b L xs C S) (hL : L ≤ 3072) {i : Int} {τ σX σM : mS} (i0 : 0 ≤ i) (i6 : i + 6 ≤ (L : Int)) (hI : lInv τ σX σM) (kk : ∀ τ1 sX sM : mS, lInv τ1 sX sM → kG x 1203 [(0, .ref b), (1, .ref (aX 0)), (2, .ref (aM 0)), (3, mI i)] [] (lJ D x.1.2.2.2.2 (mW (gX D cs aX) sX) (mW (gM D cs aM) sM)) C S) : kG x 746 [(0, .ref b), (1, .ref (aX 0)), (2, .ref (aM 0)), (3, mI i)] [] (lJ D x.1.2.2.2.2 (mW (gX D cs aX) σX) (mW (gM D cs aM) σM)) C S := by
  refine k_aload_n h.1 dL_law_746 rfl ?_
  refine l_xI h (c_X7_origins σX   hI.w) (by decide) lm_RL_91 rfl dL_law_747 rfl (Nat.le_of_ble_eq_true rfl) (fun zx sX px => ?_)
  refine k_aload_n h.1 dL_law_750 rfl ?_
  refine l_mI h (c_X8_origins σM   hI.2.1.2.1 hI.wm) (by decide) lm_RL_94 rfl dL_law_751 rfl (Nat.le_of_ble_eq_true rfl) (fun zm sM pm => ?_)
  obtain ⟨ex, rx⟩ := px
  obtain ⟨em, rm⟩ := pm
  rw [hI.1] at ex rx
  rw [hI.2.1.1] at em
  subst ex; subst em
  refine k_same (tgt := 1203) h.1 dL_law_754 (by decide) ?_
  exact kk τ sX sM ⟨rx, hI.sc rm, hI.2.2⟩
set_option maxRecDepth 100000 in
set_option maxHeartbeats 2000000 in
theorem la_19 {x : kX} {l : Launch} {D : va_G} {cs : mC} {aX aM : Int → Nat} {b L : Nat} {xs : Nat → Int32} {C S : Nat} (h : lOk x l D cs aX aM b L xs C S) (hL : L ≤ 3072) {i : Int} {τ σX σM : mS} (i0 : 0 ≤ i) (i6 : i + 6 ≤ (L : Int)) (hI : lInv τ σX σM) (kk : ∀ τ1 sX sM : mS, lInv τ1 sX sM → kG x 1203 [(0, .ref b), (1, .ref (aX 0)), (2, .ref (aM 0)), (3, mI i)] [] (lJ D x.1.2.2.2.2 (mW (gX D cs aX) sX) (mW (gM D cs aM) sM)) C S) : kG x 759 [(0, .ref b), (1, .ref (aX 0)), (2, .ref (aM 0)), (3, mI i)] [] (lJ D x.1.2.2.2.2 (mW (gX D cs aX) σX) (mW (gM D cs aM) σM)) C S := by
  refine k_aload_n h.1 dL_law_759 rfl ?_
  refine k_aload_n h.1 dL_law_760 rfl ?_
  refine k_iload_n h.1 dL_law_761 rfl ?_
  refine k_iconst h.1 dL_law_762 rfl ?_
  refine k_iadd h.1 dL_law_763 ?_
  refine l_sld h (by omega) (by omega) hL dL_law_764 ?_
  refine l_xI h (c_X7_kinds σX (sx xs (i + 1)) (sx_32 _ _) hI.w) (by decide) lm_RL_95 rfl dL_law_765 rfl (Nat.le_of_ble_eq_true rfl) (fun zx sX px => ?_)
  refine k_aload_n h.1 dL_law_768 rfl ?_
  refine k_aload_n h.1 dL_law_769 rfl ?_
  refine k_iload_n h.1 dL_law_770 rfl ?_
  refine k_iconst h.1 dL_law_771 rfl ?_
  refine k_iadd h.1 dL_law_772 ?_
  refine l_sld h (by omega) (by omega) hL dL_law_773 ?_
  refine l_mI h (c_X8_kinds σM (sx xs (i + 1)) (sx_32 _ _) hI.2.1.2.1 hI.wm) (by decide) lm_RL_98 rfl dL_law_774 rfl (Nat.le_of_ble_eq_true rfl) (fun zm sM pm => ?_)
  obtain ⟨ex, rx⟩ := px
  obtain ⟨em, rm⟩ := pm
  rw [hI.1] at ex rx
  rw [hI.2.1.1] at em
  subst ex; subst em
  refine k_same (tgt := 1203) h.1 dL_law_777 (by decide) ?_
  exact kk τ sX sM ⟨rx, hI.sc rm, hI.2.2⟩
set_option maxRecDepth 100000 in
set_option maxHeartbeats 2000000 in
theorem la_20 {x : kX} {l : Launch} {D : va_G} {cs : mC} {aX aM : Int → Nat} {b L : Nat} {xs : Nat → Int32} {C S : Nat} (h : lOk x l D cs aX aM b L xs C S) (hL : L ≤ 3072) {i : Int} {τ σX σM : mS} (i0 : 0 ≤ i) (i6 : i + 6 ≤ (L : Int)) (hI : lInv τ σX σM) (kk : ∀ τ1 sX sM : mS, lInv τ1 sX sM → kG x 1203 [(0, .ref b), (1, .ref (aX 0)), (2, .ref (aM 0)), (3, mI i)] [] (lJ D x.1.2.2.2.2 (mW (gX D cs aX) sX) (mW (gM D cs aM) sM)) C S) : kG x 782 [(0, .ref b), (1, .ref (aX 0)), (2, .ref (aM 0)), (3, mI i)] [] (lJ D x.1.2.2.2.2 (mW (gX D cs aX) σX) (mW (gM D cs aM) σM)) C S := by
  refine k_aload_n h.1 dL_law_782 rfl ?_
  refine k_aload_n h.1 dL_law_783 rfl ?_
  refine k_iload_n h.1 dL_law_784 rfl ?_
  refine k_iconst h.1 dL_law_785 rfl ?_
  refine k_iadd h.1 dL_law_786 ?_
  refine l_sld h (by omega) (by omega) hL dL_law_787 ?_
  refine k_aload_n h.1 dL_law_788 rfl ?_
  refine k_iload_n h.1 dL_law_789 rfl ?_
  refine k_iconst h.1 dL_law_790 rfl ?_
  refine k_iadd h.1 dL_law_791 ?_
  refine l_sld h (by omega) (by omega) hL dL_law_792 ?_
  refine l_xI h (c_X7_moved σX (sx xs (i + 1)) (sx xs (i + 2)) (sx_32 _ _) (sx_32 _ _) hI.w) (by decide) lm_RL_99 rfl dL_law_793 rfl (Nat.le_of_ble_eq_true rfl) (fun zx sX px => ?_)
  refine k_aload_n h.1 dL_law_796 rfl ?_
  refine k_aload_n h.1 dL_law_797 rfl ?_
  refine k_iload_n h.1 dL_law_798 rfl ?_
  refine k_iconst h.1 dL_law_799 rfl ?_
  refine k_iadd h.1 dL_law_800 ?_
  refine l_sld h (by omega) (by omega) hL dL_law_801 ?_
  refine k_aload_n h.1 dL_law_802 rfl ?_
  refine k_iload_n h.1 dL_law_803 rfl ?_
  refine k_iconst h.1 dL_law_804 rfl ?_
  refine k_iadd h.1 dL_law_805 ?_
  refine l_sld h (by omega) (by omega) hL dL_law_806 ?_
  refine l_mI h (c_X8_moved σM (sx xs (i + 1)) (sx xs (i + 2)) (sx_32 _ _) (sx_32 _ _) hI.2.1.2.1 hI.wm) (by decide) lm_RL_102 rfl dL_law_807 rfl (Nat.le_of_ble_eq_true rfl) (fun zm sM pm => ?_)
  obtain ⟨ex, rx⟩ := px
  obtain ⟨em, rm⟩ := pm
  rw [hI.1] at ex rx
  rw [hI.2.1.1] at em
  subst ex; subst em
  refine k_same (tgt := 1203) h.1 dL_law_810 (by decide) ?_
  exact kk τ sX sM ⟨rx, hI.sc rm, hI.2.2⟩
set_option maxRecDepth 100000 in
set_option maxHeartbeats 2000000 in
theorem la_21 {x : kX} {l : Launch} {D : va_G} {cs : mC} {aX aM : Int → Nat} {b L : Nat} {xs : Nat → Int32} {C S : Nat} (h : lOk x l D cs aX aM b L xs C S) (hL : L ≤ 3072) {i : Int} {τ σX σM : mS} (i0 : 0 ≤ i) (i6 : i + 6 ≤ (L : Int)) (hI : lInv τ σX σM) (kk : ∀ τ1 sX sM : mS, lInv τ1 sX sM → kG x 1203 [(0, .ref b), (1, .ref (aX 0)), (2, .ref (aM 0)), (3, mI i)] [] (lJ D x.1.2.2.2.2 (mW (gX D cs aX) sX) (mW (gM D cs aM) sM)) C S) : kG x 815 [(0, .ref b), (1, .ref (aX 0)), (2, .ref (aM 0)), (3, mI i)] [] (lJ D x.1.2.2.2.2 (mW (gX D cs aX) σX) (mW (gM D cs aM) σM)) C S := by
  refine k_aload_n h.1 dL_law_815 rfl ?_
  refine k_aload_n h.1 dL_law_816 rfl ?_
  refine k_iload_n h.1 dL_law_817 rfl ?_
  refine k_iconst h.1 dL_law_818 rfl ?_
  refine k_iadd h.1 dL_law_819 ?_
  refine l_sld h (by omega) (by omega) hL dL_law_820 ?_
  refine k_aload_n h.1 dL_law_821 rfl ?_
  refine k_iload_n h.1 dL_law_822 rfl ?_
  refine k_iconst h.1 dL_law_823 rfl ?_
  refine k_iadd h.1 dL_law_824 ?_
  refine l_sld h (by omega) (by omega) hL dL_law_825 ?_
  refine k_aload_n h.1 dL_law_826 rfl ?_
  refine k_iload_n h.1 dL_law_827 rfl ?_
  refine k_iconst h.1 dL_law_828 rfl ?_
  refine k_iadd h.1 dL_law_829 ?_
  refine l_sld h (by omega) (by omega) hL dL_law_830 ?_
  refine l_xL h (c_X7_odds σX (sx xs (i + 1)) (sx xs (i + 2)) (sx xs (i + 3)) (sx_32 _ _) (sx_32 _ _) (sx_32 _ _) hI.w) (by decide) lm_RL_103 rfl dL_law_831 rfl (Nat.le_of_ble_eq_true rfl) (fun zx sX px => ?_)
  refine k_aload_n h.1 dL_law_834 rfl ?_
  refine k_aload_n h.1 dL_law_835 rfl ?_
  refine k_iload_n h.1 dL_law_836 rfl ?_
  refine k_iconst h.1 dL_law_837 rfl ?_
  refine k_iadd h.1 dL_law_838 ?_
  refine l_sld h (by omega) (by omega) hL dL_law_839 ?_
  refine k_aload_n h.1 dL_law_840 rfl ?_
  refine k_iload_n h.1 dL_law_841 rfl ?_
  refine k_iconst h.1 dL_law_842 rfl ?_
  refine k_iadd h.1 dL_law_843 ?_
  refine l_sld h (by omega) (by omega) hL dL_law_844 ?_
  refine k_aload_n h.1 dL_law_845 rfl ?_
  refine k_iload_n h.1 dL_law_846 rfl ?_
  refine k_iconst h.1 dL_law_847 rfl ?_
  refine k_iadd h.1 dL_law_848 ?_
  refine l_sld h (by omega) (by omega) hL dL_law_849 ?_
  refine l_mL h (c_X8_odds σM (sx xs (i + 1)) (sx xs (i + 2)) (sx xs (i + 3)) (sx_32 _ _) (sx_32 _ _) (sx_32 _ _) hI.2.1.2.1 hI.wm) (by decide) lm_RL_107 rfl dL_law_850 rfl (Nat.le_of_ble_eq_true rfl) (fun zm sM pm => ?_)
  obtain ⟨ex, rx⟩ := px
  obtain ⟨em, rm⟩ := pm
  rw [hI.1] at ex rx
  rw [hI.2.1.1] at em
  subst ex; subst em
  refine k_lsame (tgt := 1203) h.1 dL_law_853 dL_law_854 (by decide) ?_
  exact kk τ sX sM ⟨rx, hI.sc rm, hI.2.2⟩
set_option maxRecDepth 100000 in
set_option maxHeartbeats 2000000 in
theorem la_22 {x : kX} {l : Launch} {D : va_G} {cs : mC} {aX aM : Int → Nat} {b L : Nat} {xs : Nat → Int32} {C S : Nat} (h : lOk x l D cs aX aM b L xs C S) (hL : L ≤ 3072) {i : Int} {τ σX σM : mS} (i0 : 0 ≤ i) (i6 : i + 6 ≤ (L : Int)) (hI : lInv τ σX σM) (kk : ∀ τ1 sX sM : mS, lInv τ1 sX sM → kG x 1203 [(0, .ref b), (1, .ref (aX 0)), (2, .ref (aM 0)), (3, mI i)] [] (lJ D x.1.2.2.2.2 (mW (gX D cs aX) sX) (mW (gM D cs aM) sM)) C S) : kG x 859 [(0, .ref b), (1, .ref (aX 0)), (2, .ref (aM 0)), (3, mI i)] [] (lJ D x.1.2.2.2.2 (mW (gX D cs aX) σX) (mW (gM D cs aM) σM)) C S := by
  refine k_aload_n h.1 dL_law_859 rfl ?_
  refine k_aload_n h.1 dL_law_860 rfl ?_
  refine k_iload_n h.1 dL_law_861 rfl ?_
  refine k_iconst h.1 dL_law_862 rfl ?_
  refine k_iadd h.1 dL_law_863 ?_
  refine l_sld h (by omega) (by omega) hL dL_law_864 ?_
  refine k_aload_n h.1 dL_law_865 rfl ?_
  refine k_iload_n h.1 dL_law_866 rfl ?_
  refine k_iconst h.1 dL_law_867 rfl ?_
  refine k_iadd h.1 dL_law_868 ?_
  refine l_sld h (by omega) (by omega) hL dL_law_869 ?_
  refine k_aload_n h.1 dL_law_870 rfl ?_
  refine k_iload_n h.1 dL_law_871 rfl ?_
  refine k_iconst h.1 dL_law_872 rfl ?_
  refine k_iadd h.1 dL_law_873 ?_
  refine l_sld h (by omega) (by omega) hL dL_law_874 ?_
  refine l_xI h (c_X7_sheet σX (sx xs (i + 1)) (sx xs (i + 2)) (sx xs (i + 3)) (sx_32 _ _) (sx_32 _ _) (sx_32 _ _) hI.w) (by decide) lm_RL_108 rfl dL_law_875 rfl (Nat.le_of_ble_eq_true rfl) (fun zx sX px => ?_)
  refine k_aload_n h.1 dL_law_878 rfl ?_
  refine k_aload_n h.1 dL_law_879 rfl ?_
  refine k_iload_n h.1 dL_law_880 rfl ?_
  refine k_iconst h.1 dL_law_881 rfl ?_
  refine k_iadd h.1 dL_law_882 ?_
  refine l_sld h (by omega) (by omega) hL dL_law_883 ?_
  refine k_aload_n h.1 dL_law_884 rfl ?_
  refine k_iload_n h.1 dL_law_885 rfl ?_
  refine k_iconst h.1 dL_law_886 rfl ?_
  refine k_iadd h.1 dL_law_887 ?_
  refine l_sld h (by omega) (by omega) hL dL_law_888 ?_
  refine k_aload_n h.1 dL_law_889 rfl ?_
  refine k_iload_n h.1 dL_law_890 rfl ?_
  refine k_iconst h.1 dL_law_891 rfl ?_
  refine k_iadd h.1 dL_law_892 ?_
  refine l_sld h (by omega) (by omega) hL dL_law_893 ?_
  refine l_mI h (c_X8_sheet σM (sx xs (i + 1)) (sx xs (i + 2)) (sx xs (i + 3)) (sx_32 _ _) (sx_32 _ _) (sx_32 _ _) hI.ok) (by decide) lm_RL_112 rfl dL_law_894 rfl (Nat.le_of_ble_eq_true rfl) (fun zm sM pm => ?_)
  obtain ⟨ex, rx⟩ := px
  obtain ⟨em, rm⟩ := pm
  rw [hI.1] at rx
  rw [hI.2.1.1] at rm
  subst ex; subst em
  refine k_same (tgt := 1203) h.1 dL_law_897 (by decide) ?_
  exact kk (ns_sheet τ (sx xs (i + 1)) (sx xs (i + 2)) (sx xs (i + 3))) sX sM ⟨rx, rm, (kw_sheet hI.2.2 (sx xs (i + 1)) (sx xs (i + 2)) (sx xs (i + 3)))⟩
set_option maxRecDepth 100000 in
set_option maxHeartbeats 2000000 in
theorem la_23 {x : kX} {l : Launch} {D : va_G} {cs : mC} {aX aM : Int → Nat} {b L : Nat} {xs : Nat → Int32} {C S : Nat} (h : lOk x l D cs aX aM b L xs C S) (hL : L ≤ 3072) {i : Int} {τ σX σM : mS} (i0 : 0 ≤ i) (i6 : i + 6 ≤ (L : Int)) (hI : lInv τ σX σM) (kk : ∀ τ1 sX sM : mS, lInv τ1 sX sM → kG x 1203 [(0, .ref b), (1, .ref (aX 0)), (2, .ref (aM 0)), (3, mI i)] [] (lJ D x.1.2.2.2.2 (mW (gX D cs aX) sX) (mW (gM D cs aM) sM)) C S) : kG x 902 [(0, .ref b), (1, .ref (aX 0)), (2, .ref (aM 0)), (3, mI i)] [] (lJ D x.1.2.2.2.2 (mW (gX D cs aX) σX) (mW (gM D cs aM) σM)) C S := by
  refine k_aload_n h.1 dL_law_902 rfl ?_
  refine k_aload_n h.1 dL_law_903 rfl ?_
  refine k_iload_n h.1 dL_law_904 rfl ?_
  refine k_iconst h.1 dL_law_905 rfl ?_
  refine k_iadd h.1 dL_law_906 ?_
  refine l_sld h (by omega) (by omega) hL dL_law_907 ?_
  refine l_xI h (c_X7_lose σX (sx xs (i + 1)) (sx_32 _ _) hI.w) (by decide) lm_RL_113 rfl dL_law_908 rfl (Nat.le_of_ble_eq_true rfl) (fun zx sX px => ?_)
  refine k_aload_n h.1 dL_law_911 rfl ?_
  refine k_aload_n h.1 dL_law_912 rfl ?_
  refine k_iload_n h.1 dL_law_913 rfl ?_
  refine k_iconst h.1 dL_law_914 rfl ?_
  refine k_iadd h.1 dL_law_915 ?_
  refine l_sld h (by omega) (by omega) hL dL_law_916 ?_
  refine l_mI h (c_X8_lose σM (sx xs (i + 1)) (sx_32 _ _) hI.ok) (by decide) lm_RL_116 rfl dL_law_917 rfl (Nat.le_of_ble_eq_true rfl) (fun zm sM pm => ?_)
  obtain ⟨ex, rx⟩ := px
  obtain ⟨em, rm⟩ := pm
  rw [hI.1] at ex rx
  rw [hI.2.1.1] at em rm
  subst ex; subst em
  refine k_same (tgt := 1203) h.1 dL_law_920 (by decide) ?_
  exact kk (ns_lose τ (sx xs (i + 1))) sX sM ⟨rx, rm, (kw_lose hI.2.2 (sx xs (i + 1)))⟩
set_option maxRecDepth 100000 in
set_option maxHeartbeats 2000000 in
theorem la_24 {x : kX} {l : Launch} {D : va_G} {cs : mC} {aX aM : Int → Nat} {b L : Nat} {xs : Nat → Int32} {C S : Nat} (h : lOk x l D cs aX aM b L xs C S) (hL : L ≤ 3072) {i : Int} {τ σX σM : mS} (i0 : 0 ≤ i) (i6 : i + 6 ≤ (L : Int)) (hI : lInv τ σX σM) (kk : ∀ τ1 sX sM : mS, lInv τ1 sX sM → kG x 1203 [(0, .ref b), (1, .ref (aX 0)), (2, .ref (aM 0)), (3, mI i)] [] (lJ D x.1.2.2.2.2 (mW (gX D cs aX) sX) (mW (gM D cs aM) sM)) C S) : kG x 925 [(0, .ref b), (1, .ref (aX 0)), (2, .ref (aM 0)), (3, mI i)] [] (lJ D x.1.2.2.2.2 (mW (gX D cs aX) σX) (mW (gM D cs aM) σM)) C S := by
  refine k_aload_n h.1 dL_law_925 rfl ?_
  refine k_aload_n h.1 dL_law_926 rfl ?_
  refine k_iload_n h.1 dL_law_927 rfl ?_
  refine k_iconst h.1 dL_law_928 rfl ?_
  refine k_iadd h.1 dL_law_929 ?_
  refine l_sld h (by omega) (by omega) hL dL_law_930 ?_
  refine k_aload_n h.1 dL_law_931 rfl ?_
  refine k_iload_n h.1 dL_law_932 rfl ?_
  refine k_iconst h.1 dL_law_933 rfl ?_
  refine k_iadd h.1 dL_law_934 ?_
  refine l_sld h (by omega) (by omega) hL dL_law_935 ?_
  refine k_aload_n h.1 dL_law_936 rfl ?_
  refine k_iload_n h.1 dL_law_937 rfl ?_
  refine k_iconst h.1 dL_law_938 rfl ?_
  refine k_iadd h.1 dL_law_939 ?_
  refine l_sld h (by omega) (by omega) hL dL_law_940 ?_
  refine l_xI h (c_X7_put σX (sx xs (i + 1)) (sx xs (i + 2)) (sx xs (i + 3)) (sx_32 _ _) (sx_32 _ _) (sx_32 _ _) hI.w) (by decide) lm_RL_117 rfl dL_law_941 rfl (Nat.le_of_ble_eq_true rfl) (fun zx sX px => ?_)
  refine k_aload_n h.1 dL_law_944 rfl ?_
  refine k_aload_n h.1 dL_law_945 rfl ?_
  refine k_iload_n h.1 dL_law_946 rfl ?_
  refine k_iconst h.1 dL_law_947 rfl ?_
  refine k_iadd h.1 dL_law_948 ?_
  refine l_sld h (by omega) (by omega) hL dL_law_949 ?_
  refine k_aload_n h.1 dL_law_950 rfl ?_
  refine k_iload_n h.1 dL_law_951 rfl ?_
  refine k_iconst h.1 dL_law_952 rfl ?_
  refine k_iadd h.1 dL_law_953 ?_
  refine l_sld h (by omega) (by omega) hL dL_law_954 ?_
  refine k_aload_n h.1 dL_law_955 rfl ?_
  refine k_iload_n h.1 dL_law_956 rfl ?_
  refine k_iconst h.1 dL_law_957 rfl ?_
  refine k_iadd h.1 dL_law_958 ?_
  refine l_sld h (by omega) (by omega) hL dL_law_959 ?_
  refine l_mI h (c_X8_put σM (sx xs (i + 1)) (sx xs (i + 2)) (sx xs (i + 3)) (sx_32 _ _) (sx_32 _ _) (sx_32 _ _) hI.ok) (by decide) lm_RL_120 rfl dL_law_960 rfl (Nat.le_of_ble_eq_true rfl) (fun zm sM pm => ?_)
  obtain ⟨ex, rx⟩ := px
  obtain ⟨em, rm⟩ := pm
  rw [hI.1] at ex rx
  rw [hI.2.1.1] at em rm
  subst ex; subst em
  refine k_same (tgt := 1203) h.1 dL_law_963 (by decide) ?_
  exact kk (ns_put τ (sx xs (i + 1)) (sx xs (i + 2)) (sx xs (i + 3))) sX sM ⟨rx, rm, (kw_put hI.2.2 (sx xs (i + 1)) (sx xs (i + 2)) (sx_32 _ _))⟩
set_option maxRecDepth 100000 in
set_option maxHeartbeats 2000000 in
theorem la_25 {x : kX} {l : Launch} {D : va_G} {cs : mC} {aX aM : Int → Nat} {b L : Nat} {xs : Nat → Int32} {C S : Nat} (h : lOk x l D cs aX aM b L xs C S) (hL : L ≤ 3072) {i : Int} {τ σX σM : mS} (i0 : 0 ≤ i) (i6 : i + 6 ≤ (L : Int)) (hI : lInv τ σX σM) (kk : ∀ τ1 sX sM : mS, lInv τ1 sX sM → kG x 1203 [(0, .ref b), (1, .ref (aX 0)), (2, .ref (aM 0)), (3, mI i)] [] (lJ D x.1.2.2.2.2 (mW (gX D cs aX) sX) (mW (gM D cs aM) sM)) C S) : kG x 968 [(0, .ref b), (1, .ref (aX 0)), (2, .ref (aM 0)), (3, mI i)] [] (lJ D x.1.2.2.2.2 (mW (gX D cs aX) σX) (mW (gM D cs aM) σM)) C S := by
  refine k_aload_n h.1 dL_law_968 rfl ?_
  refine k_aload_n h.1 dL_law_969 rfl ?_
  refine k_iload_n h.1 dL_law_970 rfl ?_
  refine k_iconst h.1 dL_law_971 rfl ?_
  refine k_iadd h.1 dL_law_972 ?_
  refine l_sld h (by omega) (by omega) hL dL_law_973 ?_
  refine k_aload_n h.1 dL_law_974 rfl ?_
  refine k_iload_n h.1 dL_law_975 rfl ?_
  refine k_iconst h.1 dL_law_976 rfl ?_
  refine k_iadd h.1 dL_law_977 ?_
  refine l_sld h (by omega) (by omega) hL dL_law_978 ?_
  refine k_aload_n h.1 dL_law_979 rfl ?_
  refine k_iload_n h.1 dL_law_980 rfl ?_
  refine k_iconst h.1 dL_law_981 rfl ?_
  refine k_iadd h.1 dL_law_982 ?_
  refine l_sld h (by omega) (by omega) hL dL_law_983 ?_
  refine l_xL h (c_X7_cell σX (sx xs (i + 1)) (sx xs (i + 2)) (sx xs (i + 3)) (sx_32 _ _) (sx_32 _ _) (sx_32 _ _) hI.w) (by decide) lm_RL_121 rfl dL_law_984 rfl (Nat.le_of_ble_eq_true rfl) (fun zx sX px => ?_)
  refine k_aload_n h.1 dL_law_987 rfl ?_
  refine k_aload_n h.1 dL_law_988 rfl ?_
  refine k_iload_n h.1 dL_law_989 rfl ?_
  refine k_iconst h.1 dL_law_990 rfl ?_
  refine k_iadd h.1 dL_law_991 ?_
  refine l_sld h (by omega) (by omega) hL dL_law_992 ?_
  refine k_aload_n h.1 dL_law_993 rfl ?_
  refine k_iload_n h.1 dL_law_994 rfl ?_
  refine k_iconst h.1 dL_law_995 rfl ?_
  refine k_iadd h.1 dL_law_996 ?_
  refine l_sld h (by omega) (by omega) hL dL_law_997 ?_
  refine k_aload_n h.1 dL_law_998 rfl ?_
  refine k_iload_n h.1 dL_law_999 rfl ?_
  refine k_iconst h.1 dL_law_1000 rfl ?_
  refine k_iadd h.1 dL_law_1001 ?_
  refine l_sld h (by omega) (by omega) hL dL_law_1002 ?_
  refine l_mL h (c_X8_cell σM (sx xs (i + 1)) (sx xs (i + 2)) (sx xs (i + 3)) (sx_32 _ _) (sx_32 _ _) (sx_32 _ _) hI.ok) (by decide) lm_RL_124 rfl dL_law_1003 rfl (Nat.le_of_ble_eq_true rfl) (fun zm sM pm => ?_)
  obtain ⟨ex, rx⟩ := px
  obtain ⟨em, rm⟩ := pm
  rw [hI.1] at ex rx
  rw [hI.2.1.1] at em rm
  subst ex; subst em
  refine k_lsame (tgt := 1203) h.1 dL_law_1006 dL_law_1007 (by decide) ?_
  exact kk (ns_cell τ (sx xs (i + 1)) (sx xs (i + 2)) (sx xs (i + 3))) sX sM ⟨rx, rm, (kw_cell hI.2.2 (sx xs (i + 1)) (sx xs (i + 2)) (sx xs (i + 3)))⟩
set_option maxRecDepth 100000 in
set_option maxHeartbeats 2000000 in
theorem la_26 {x : kX} {l : Launch} {D : va_G} {cs : mC} {aX aM : Int → Nat} {b L : Nat} {xs : Nat → Int32} {C S : Nat} (h : lOk x l D cs aX aM b L xs C S) (hL : L ≤ 3072) {i : Int} {τ σX σM : mS} (i0 : 0 ≤ i) (i6 : i + 6 ≤ (L : Int)) (hI : lInv τ σX σM) (kk : ∀ τ1 sX sM : mS, lInv τ1 sX sM → kG x 1203 [(0, .ref b), (1, .ref (aX 0)), (2, .ref (aM 0)), (3, mI i)] [] (lJ D x.1.2.2.2.2 (mW (gX D cs aX) sX) (mW (gM D cs aM) sM)) C S) : kG x 1012 [(0, .ref b), (1, .ref (aX 0)), (2, .ref (aM 0)), (3, mI i)] [] (lJ D x.1.2.2.2.2 (mW (gX D cs aX) σX) (mW (gM D cs aM) σM)) C S := by
  refine k_aload_n h.1 dL_law_1012 rfl ?_
  refine k_aload_n h.1 dL_law_1013 rfl ?_
  refine k_iload_n h.1 dL_law_1014 rfl ?_
  refine k_iconst h.1 dL_law_1015 rfl ?_
  refine k_iadd h.1 dL_law_1016 ?_
  refine l_sld h (by omega) (by omega) hL dL_law_1017 ?_
  refine k_aload_n h.1 dL_law_1018 rfl ?_
  refine k_iload_n h.1 dL_law_1019 rfl ?_
  refine k_iconst h.1 dL_law_1020 rfl ?_
  refine k_iadd h.1 dL_law_1021 ?_
  refine l_sld h (by omega) (by omega) hL dL_law_1022 ?_
  refine k_aload_n h.1 dL_law_1023 rfl ?_
  refine k_iload_n h.1 dL_law_1024 rfl ?_
  refine k_iconst h.1 dL_law_1025 rfl ?_
  refine k_iadd h.1 dL_law_1026 ?_
  refine l_sld h (by omega) (by omega) hL dL_law_1027 ?_
  refine k_aload_n h.1 dL_law_1028 rfl ?_
  refine k_iload_n h.1 dL_law_1029 rfl ?_
  refine k_iconst h.1 dL_law_1030 rfl ?_
  refine k_iadd h.1 dL_law_1031 ?_
  refine l_sld h (by omega) (by omega) hL dL_law_1032 ?_
  refine k_aload_n h.1 dL_law_1033 rfl ?_
  refine k_iload_n h.1 dL_law_1034 rfl ?_
  refine k_iconst h.1 dL_law_1035 rfl ?_
  refine k_iadd h.1 dL_law_1036 ?_
  refine l_sld h (by omega) (by omega) hL dL_law_1037 ?_
  refine l_xI h (c_X7_copy σX (sx xs (i + 1)) (sx xs (i + 2)) (sx xs (i + 3)) (sx xs (i + 4)) (sx xs (i + 5)) (sx_32 _ _) (sx_32 _ _) (sx_32 _ _) (sx_32 _ _) (sx_32 _ _) hI.w) (by decide) lm_RL_125 rfl dL_law_1038 rfl (Nat.le_of_ble_eq_true rfl) (fun zx sX px => ?_)
  refine k_aload_n h.1 dL_law_1041 rfl ?_
  refine k_aload_n h.1 dL_law_1042 rfl ?_
  refine k_iload_n h.1 dL_law_1043 rfl ?_
  refine k_iconst h.1 dL_law_1044 rfl ?_
  refine k_iadd h.1 dL_law_1045 ?_
  refine l_sld h (by omega) (by omega) hL dL_law_1046 ?_
  refine k_aload_n h.1 dL_law_1047 rfl ?_
  refine k_iload_n h.1 dL_law_1048 rfl ?_
  refine k_iconst h.1 dL_law_1049 rfl ?_
  refine k_iadd h.1 dL_law_1050 ?_
  refine l_sld h (by omega) (by omega) hL dL_law_1051 ?_
  refine k_aload_n h.1 dL_law_1052 rfl ?_
  refine k_iload_n h.1 dL_law_1053 rfl ?_
  refine k_iconst h.1 dL_law_1054 rfl ?_
  refine k_iadd h.1 dL_law_1055 ?_
  refine l_sld h (by omega) (by omega) hL dL_law_1056 ?_
  refine k_aload_n h.1 dL_law_1057 rfl ?_
  refine k_iload_n h.1 dL_law_1058 rfl ?_
  refine k_iconst h.1 dL_law_1059 rfl ?_
  refine k_iadd h.1 dL_law_1060 ?_
  refine l_sld h (by omega) (by omega) hL dL_law_1061 ?_
  refine k_aload_n h.1 dL_law_1062 rfl ?_
  refine k_iload_n h.1 dL_law_1063 rfl ?_
  refine k_iconst h.1 dL_law_1064 rfl ?_
  refine k_iadd h.1 dL_law_1065 ?_
  refine l_sld h (by omega) (by omega) hL dL_law_1066 ?_
  refine l_mI h (c_X8_copy σM (sx xs (i + 1)) (sx xs (i + 2)) (sx xs (i + 3)) (sx xs (i + 4)) (sx xs (i + 5)) (sx_32 _ _) (sx_32 _ _) (sx_32 _ _) (sx_32 _ _) (sx_32 _ _) hI.ok) (by decide) lm_RL_129 rfl dL_law_1067 rfl (Nat.le_of_ble_eq_true rfl) (fun zm sM pm => ?_)
  obtain ⟨ex, rx⟩ := px
  obtain ⟨em, rm⟩ := pm
  rw [hI.1] at ex rx
  rw [hI.2.1.1] at em rm
  subst ex; subst em
  refine k_same (tgt := 1203) h.1 dL_law_1070 (by decide) ?_
  exact kk (ns_copy τ (sx xs (i + 1)) (sx xs (i + 2)) (sx xs (i + 3)) (sx xs (i + 4)) (sx xs (i + 5))) sX sM ⟨rx, rm, (kw_copy hI.2.2 (sx xs (i + 1)) (sx xs (i + 2)) (sx xs (i + 3)) (sx xs (i + 4)) (sx xs (i + 5)))⟩
set_option maxRecDepth 100000 in
set_option maxHeartbeats 2000000 in
theorem la_27 {x : kX} {l : Launch} {D : va_G} {cs : mC} {aX aM : Int → Nat} {b L : Nat} {xs : Nat → Int32} {C S : Nat} (h : lOk x l D cs aX aM b L xs C S) (hL : L ≤ 3072) {i : Int} {τ σX σM : mS} (i0 : 0 ≤ i) (i6 : i + 6 ≤ (L : Int)) (hI : lInv τ σX σM) (kk : ∀ τ1 sX sM : mS, lInv τ1 sX sM → kG x 1203 [(0, .ref b), (1, .ref (aX 0)), (2, .ref (aM 0)), (3, mI i)] [] (lJ D x.1.2.2.2.2 (mW (gX D cs aX) sX) (mW (gM D cs aM) sM)) C S) : kG x 1075 [(0, .ref b), (1, .ref (aX 0)), (2, .ref (aM 0)), (3, mI i)] [] (lJ D x.1.2.2.2.2 (mW (gX D cs aX) σX) (mW (gM D cs aM) σM)) C S := by
  refine k_aload_n h.1 dL_law_1075 rfl ?_
  refine k_aload_n h.1 dL_law_1076 rfl ?_
  refine k_iload_n h.1 dL_law_1077 rfl ?_
  refine k_iconst h.1 dL_law_1078 rfl ?_
  refine k_iadd h.1 dL_law_1079 ?_
  refine l_sld h (by omega) (by omega) hL dL_law_1080 ?_
  refine l_xI h (c_X7_tell σX (sx xs (i + 1)) (sx_32 _ _) hI.w) (by decide) lm_RL_130 rfl dL_law_1081 rfl (Nat.le_of_ble_eq_true rfl) (fun zx sX px => ?_)
  refine k_aload_n h.1 dL_law_1084 rfl ?_
  refine k_aload_n h.1 dL_law_1085 rfl ?_
  refine k_iload_n h.1 dL_law_1086 rfl ?_
  refine k_iconst h.1 dL_law_1087 rfl ?_
  refine k_iadd h.1 dL_law_1088 ?_
  refine l_sld h (by omega) (by omega) hL dL_law_1089 ?_
  refine l_mI h (c_X8_tell σM (sx xs (i + 1)) (sx_32 _ _) hI.ok) (by decide) lm_RL_133 rfl dL_law_1090 rfl (Nat.le_of_ble_eq_true rfl) (fun zm sM pm => ?_)
  obtain ⟨ex, rx⟩ := px
  obtain ⟨em, rm⟩ := pm
  rw [hI.1] at ex rx
  rw [hI.2.1.1] at em rm
  subst ex; subst em
  refine k_same (tgt := 1203) h.1 dL_law_1093 (by decide) ?_
  exact kk (ns_tell τ (sx xs (i + 1))) sX sM ⟨rx, rm, (kw_tell hI.2.2 (sx xs (i + 1)))⟩
set_option maxRecDepth 100000 in
set_option maxHeartbeats 2000000 in
theorem la_28 {x : kX} {l : Launch} {D : va_G} {cs : mC} {aX aM : Int → Nat} {b L : Nat} {xs : Nat → Int32} {C S : Nat} (h : lOk x l D cs aX aM b L xs C S) (hL : L ≤ 3072) {i : Int} {τ σX σM : mS} (i0 : 0 ≤ i) (i6 : i + 6 ≤ (L : Int)) (hI : lInv τ σX σM) (kk : ∀ τ1 sX sM : mS, lInv τ1 sX sM → kG x 1203 [(0, .ref b), (1, .ref (aX 0)), (2, .ref (aM 0)), (3, mI i)] [] (lJ D x.1.2.2.2.2 (mW (gX D cs aX) sX) (mW (gM D cs aM) sM)) C S) : kG x 1098 [(0, .ref b), (1, .ref (aX 0)), (2, .ref (aM 0)), (3, mI i)] [] (lJ D x.1.2.2.2.2 (mW (gX D cs aX) σX) (mW (gM D cs aM) σM)) C S := by
  refine k_aload_n h.1 dL_law_1098 rfl ?_
  refine k_aload_n h.1 dL_law_1099 rfl ?_
  refine k_iload_n h.1 dL_law_1100 rfl ?_
  refine k_iconst h.1 dL_law_1101 rfl ?_
  refine k_iadd h.1 dL_law_1102 ?_
  refine l_sld h (by omega) (by omega) hL dL_law_1103 ?_
  refine l_xI h (c_X7_seal σX (sx xs (i + 1)) (sx_32 _ _) hI.w) (by decide) lm_RL_134 rfl dL_law_1104 rfl (Nat.le_of_ble_eq_true rfl) (fun zx sX px => ?_)
  refine k_aload_n h.1 dL_law_1107 rfl ?_
  refine k_aload_n h.1 dL_law_1108 rfl ?_
  refine k_iload_n h.1 dL_law_1109 rfl ?_
  refine k_iconst h.1 dL_law_1110 rfl ?_
  refine k_iadd h.1 dL_law_1111 ?_
  refine l_sld h (by omega) (by omega) hL dL_law_1112 ?_
  refine l_mI h (c_X8_seal σM (sx xs (i + 1)) (sx_32 _ _) hI.ok) (by decide) lm_RL_137 rfl dL_law_1113 rfl (Nat.le_of_ble_eq_true rfl) (fun zm sM pm => ?_)
  obtain ⟨ex, rx⟩ := px
  obtain ⟨em, rm⟩ := pm
  rw [hI.1] at ex rx
  rw [hI.2.1.1] at em rm
  subst ex; subst em
  refine k_same (tgt := 1203) h.1 dL_law_1116 (by decide) ?_
  exact kk (ns_seal τ (sx xs (i + 1))) sX sM ⟨rx, rm, (kw_seal hI.2.2 (sx xs (i + 1)))⟩
set_option maxRecDepth 100000 in
set_option maxHeartbeats 2000000 in
theorem la_29 {x : kX} {l : Launch} {D : va_G} {cs : mC} {aX aM : Int → Nat} {b L : Nat} {xs : Nat → Int32} {C S : Nat} (h : lOk x l D cs aX aM b L xs C S) (hL : L ≤ 3072) {i : Int} {τ σX σM : mS} (i0 : 0 ≤ i) (i6 : i + 6 ≤ (L : Int)) (hI : lInv τ σX σM) (kk : ∀ τ1 sX sM : mS, lInv τ1 sX sM → kG x 1203 [(0, .ref b), (1, .ref (aX 0)), (2, .ref (aM 0)), (3, mI i)] [] (lJ D x.1.2.2.2.2 (mW (gX D cs aX) sX) (mW (gM D cs aM) sM)) C S) : kG x 1121 [(0, .ref b), (1, .ref (aX 0)), (2, .ref (aM 0)), (3, mI i)] [] (lJ D x.1.2.2.2.2 (mW (gX D cs aX) σX) (mW (gM D cs aM) σM)) C S := by
  refine k_aload_n h.1 dL_law_1121 rfl ?_
  refine k_aload_n h.1 dL_law_1122 rfl ?_
  refine k_iload_n h.1 dL_law_1123 rfl ?_
  refine k_iconst h.1 dL_law_1124 rfl ?_
  refine k_iadd h.1 dL_law_1125 ?_
  refine l_sld h (by omega) (by omega) hL dL_law_1126 ?_
  refine k_aload_n h.1 dL_law_1127 rfl ?_
  refine k_iload_n h.1 dL_law_1128 rfl ?_
  refine k_iconst h.1 dL_law_1129 rfl ?_
  refine k_iadd h.1 dL_law_1130 ?_
  refine l_sld h (by omega) (by omega) hL dL_law_1131 ?_
  refine l_xI h (c_X7_as σX (sx xs (i + 1)) (sx xs (i + 2)) (sx_32 _ _) (sx_32 _ _) hI.w) (by decide) lm_RL_138 rfl dL_law_1132 rfl (Nat.le_of_ble_eq_true rfl) (fun zx sX px => ?_)
  refine k_aload_n h.1 dL_law_1135 rfl ?_
  refine k_aload_n h.1 dL_law_1136 rfl ?_
  refine k_iload_n h.1 dL_law_1137 rfl ?_
  refine k_iconst h.1 dL_law_1138 rfl ?_
  refine k_iadd h.1 dL_law_1139 ?_
  refine l_sld h (by omega) (by omega) hL dL_law_1140 ?_
  refine k_aload_n h.1 dL_law_1141 rfl ?_
  refine k_iload_n h.1 dL_law_1142 rfl ?_
  refine k_iconst h.1 dL_law_1143 rfl ?_
  refine k_iadd h.1 dL_law_1144 ?_
  refine l_sld h (by omega) (by omega) hL dL_law_1145 ?_
  refine l_mI h (c_X8_as σM (sx xs (i + 1)) (sx xs (i + 2)) (sx_32 _ _) (sx_32 _ _) hI.ok) (by decide) lm_RL_141 rfl dL_law_1146 rfl (Nat.le_of_ble_eq_true rfl) (fun zm sM pm => ?_)
  obtain ⟨ex, rx⟩ := px
  obtain ⟨em, rm⟩ := pm
  rw [hI.1] at ex rx
  rw [hI.2.1.1] at em rm
  subst ex; subst em
  refine k_same (tgt := 1203) h.1 dL_law_1149 (by decide) ?_
  exact kk (ns_as τ (sx xs (i + 1)) (sx xs (i + 2))) sX sM ⟨rx, rm, (kw_as hI.2.2 (sx xs (i + 1)) (sx xs (i + 2)))⟩
set_option maxRecDepth 100000 in
set_option maxHeartbeats 2000000 in
theorem la_30 {x : kX} {l : Launch} {D : va_G} {cs : mC} {aX aM : Int → Nat} {b L : Nat} {xs : Nat → Int32} {C S : Nat} (h : lOk x l D cs aX aM b L xs C S) (hL : L ≤ 3072) {i : Int} {τ σX σM : mS} (i0 : 0 ≤ i) (i6 : i + 6 ≤ (L : Int)) (hI : lInv τ σX σM) (kk : ∀ τ1 sX sM : mS, lInv τ1 sX sM → kG x 1203 [(0, .ref b), (1, .ref (aX 0)), (2, .ref (aM 0)), (3, mI i)] [] (lJ D x.1.2.2.2.2 (mW (gX D cs aX) sX) (mW (gM D cs aM) sM)) C S) : kG x 1154 [(0, .ref b), (1, .ref (aX 0)), (2, .ref (aM 0)), (3, mI i)] [] (lJ D x.1.2.2.2.2 (mW (gX D cs aX) σX) (mW (gM D cs aM) σM)) C S := by
  refine k_aload_n h.1 dL_law_1154 rfl ?_
  refine l_xI h (c_X7_trace σX) (by decide) lm_RL_142 rfl dL_law_1155 rfl (Nat.le_of_ble_eq_true rfl) (fun zx sX px => ?_)
  refine k_aload_n h.1 dL_law_1158 rfl ?_
  refine l_mI h (c_X8_trace σM) (by decide) lm_RL_145 rfl dL_law_1159 rfl (Nat.le_of_ble_eq_true rfl) (fun zm sM pm => ?_)
  obtain ⟨ex, rx⟩ := px
  obtain ⟨em, rm⟩ := pm
  have eq : zm = zx := by
    rw [em, ex, hI.1, ← hI.2.1.1]
    rfl
  subst eq
  subst rx; subst rm
  refine k_same (tgt := 1203) h.1 dL_law_1162 (by decide) ?_
  exact kk τ sX sM hI
set_option maxRecDepth 100000 in
set_option maxHeartbeats 2000000 in
theorem la_31 {x : kX} {l : Launch} {D : va_G} {cs : mC} {aX aM : Int → Nat} {b L : Nat} {xs : Nat → Int32} {C S : Nat} (h : lOk x l D cs aX aM b L xs C S) (hL : L ≤ 3072) {i : Int} {τ σX σM : mS} (i0 : 0 ≤ i) (i6 : i + 6 ≤ (L : Int)) (hI : lInv τ σX σM) (kk : ∀ τ1 sX sM : mS, lInv τ1 sX sM → kG x 1203 [(0, .ref b), (1, .ref (aX 0)), (2, .ref (aM 0)), (3, mI i)] [] (lJ D x.1.2.2.2.2 (mW (gX D cs aX) sX) (mW (gM D cs aM) sM)) C S) : kG x 1167 [(0, .ref b), (1, .ref (aX 0)), (2, .ref (aM 0)), (3, mI i)] [] (lJ D x.1.2.2.2.2 (mW (gX D cs aX) σX) (mW (gM D cs aM) σM)) C S := by
  refine k_aload_n h.1 dL_law_1167 rfl ?_
  refine l_xI h (c_X7_fault σX) (by decide) lm_RL_146 rfl dL_law_1168 rfl (Nat.le_of_ble_eq_true rfl) (fun zx sX px => ?_)
  refine k_aload_n h.1 dL_law_1171 rfl ?_
  refine l_mI h (c_X8_fault σM) (by decide) lm_RL_149 rfl dL_law_1172 rfl (Nat.le_of_ble_eq_true rfl) (fun zm sM pm => ?_)
  obtain ⟨ex, rx⟩ := px
  obtain ⟨em, rm⟩ := pm
  have eq : zm = zx := by
    rw [em, ex, hI.1, ← hI.2.1.1]
    rfl
  subst eq
  subst rx; subst rm
  refine k_same (tgt := 1203) h.1 dL_law_1175 (by decide) ?_
  exact kk τ sX sM hI
set_option maxRecDepth 100000 in
set_option maxHeartbeats 2000000 in
theorem la_32 {x : kX} {l : Launch} {D : va_G} {cs : mC} {aX aM : Int → Nat} {b L : Nat} {xs : Nat → Int32} {C S : Nat} (h : lOk x l D cs aX aM b L xs C S) (hL : L ≤ 3072) {i : Int} {τ σX σM : mS} (i0 : 0 ≤ i) (i6 : i + 6 ≤ (L : Int)) (hI : lInv τ σX σM) (kk : ∀ τ1 sX sM : mS, lInv τ1 sX sM → kG x 1203 [(0, .ref b), (1, .ref (aX 0)), (2, .ref (aM 0)), (3, mI i)] [] (lJ D x.1.2.2.2.2 (mW (gX D cs aX) sX) (mW (gM D cs aM) sM)) C S) : kG x 1180 [(0, .ref b), (1, .ref (aX 0)), (2, .ref (aM 0)), (3, mI i)] [] (lJ D x.1.2.2.2.2 (mW (gX D cs aX) σX) (mW (gM D cs aM) σM)) C S := by
  refine k_aload_n h.1 dL_law_1180 rfl ?_
  refine k_aload_n h.1 dL_law_1181 rfl ?_
  refine k_iload_n h.1 dL_law_1182 rfl ?_
  refine k_iconst h.1 dL_law_1183 rfl ?_
  refine k_iadd h.1 dL_law_1184 ?_
  refine l_sld h (by omega) (by omega) hL dL_law_1185 ?_
  refine l_xI h (c_X7_many σX (sx xs (i + 1)) (sx_32 _ _)) (by decide) lm_RL_150 rfl dL_law_1186 rfl (Nat.le_of_ble_eq_true rfl) (fun zx sX px => ?_)
  refine k_aload_n h.1 dL_law_1189 rfl ?_
  refine k_aload_n h.1 dL_law_1190 rfl ?_
  refine k_iload_n h.1 dL_law_1191 rfl ?_
  refine k_iconst h.1 dL_law_1192 rfl ?_
  refine k_iadd h.1 dL_law_1193 ?_
  refine l_sld h (by omega) (by omega) hL dL_law_1194 ?_
  refine l_mI h (c_X8_many σM (sx xs (i + 1)) (sx_32 _ _) hI.ok) (by decide) lm_RL_153 rfl dL_law_1195 rfl (Nat.le_of_ble_eq_true rfl) (fun zm sM pm => ?_)
  obtain ⟨ex, rx⟩ := px
  obtain ⟨em, rm⟩ := pm
  rw [hI.1] at ex rx
  rw [hI.2.1.1] at em rm
  subst ex; subst em
  refine k_same (tgt := 1203) h.1 dL_law_1198 (by decide) ?_
  exact kk τ sX sM ⟨rx, rm, hI.2.2⟩
