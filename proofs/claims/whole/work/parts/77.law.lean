/-! ===== the law's loop ===== -/
theorem gl_gt {S : am_S} {d : Nat} {t : am_T} {M : am_M} {pc nx a b h : Nat} {la st : List Value} {Q : Option Value × am_M → Prop} {z : Int} {i L : Nat} (hl : At t pc (.if_icmp .gt z, nx, a, b, h)) (hi : i ≤ 10000) (hL : L ≤ 10000) (kt : L < i + 6 → Go S d t (M, a, la, st) Q) (kf : i + 6 ≤ L → Go S d t (M, nx, la, st) Q) : Go S d t (M, pc, la, .int (zI ((L : Int) - ((6 : Nat) : Int))) :: .int (nI i) :: st) Q := by
  rw [nI_zI i]
  exact gi_ic_gt hl (by omega) (by omega) (fun c => kt (by omega)) (fun c => kf (by omega))
section LAW
variable {S : am_S} {mI : Nat → Nat → Int32} {mL : Nat → Nat → Int64} {n i : Nat} {Q : Option Value × am_M → Prop}
theorem lc_rest (hi : i + 6 ≤ S.1) (hL : S.1 ≤ 3072) (hR : Rel n mI mL) (kq : ∀ n mI mL, Rel n mI mL → Go S 30 tL_law ((am_sh n, mI, mL, am_mR n), 1222, [.retAddr 0, .ref 0, .ref 43, .int (nI i)], []) Q) : Go S 30 tL_law ((am_sh n, mI, mL, am_mR n), 180, [.retAddr 0, .ref 0, .ref 43, .int (nI i)], []) Q := by
  obtain ⟨v, n1, mI1, mL1, mI2, mL2, sT, sM, hR2, h1, h2⟩ := pr_rest (S := S) (S.2 (i + 1)) hR
  obtain ⟨z, hz⟩ := sp_int rfl sT
  subst hz
  refine go_aloadn_1 iL_law_180 rfl ?_
  refine go_aloadn_0 iL_law_181 rfl ?_
  refine go_iloadn_3 iL_law_182 ?_
  refine go_iconst (v := nI 1) iL_law_183 rfl ?_
  refine gn_iadd iL_law_184 ?_
  refine go_sld iL_law_185 rfl (by omega) (by omega) ?_
  refine gc_V1 iL_law_186 rfl (by decide) (sk_0 _) rfl (Nat.le_of_ble_eq_true rfl) (Nat.le_of_ble_eq_true rfl) (by decide) sT ?_
  refine go_aloadn_2 iL_law_189 rfl ?_
  refine go_aloadn_0 iL_law_190 rfl ?_
  refine go_iloadn_3 iL_law_191 ?_
  refine go_iconst (v := nI 1) iL_law_192 rfl ?_
  refine gn_iadd iL_law_193 ?_
  refine go_sld iL_law_194 rfl (by omega) (by omega) ?_
  refine gc_V1 iL_law_195 rfl (by decide) (sk_43 _) rfl (Nat.le_of_ble_eq_true rfl) (Nat.le_of_ble_eq_true rfl) (by decide) sM ?_
  refine go_ic_eq iL_law_198 (fun _ => ?_) (fun c => absurd rfl c)
  exact kq _ _ _ hR2
theorem lc_play (hi : i + 6 ≤ S.1) (hL : S.1 ≤ 3072) (hR : Rel n mI mL) (kq : ∀ n mI mL, Rel n mI mL → Go S 30 tL_law ((am_sh n, mI, mL, am_mR n), 1222, [.retAddr 0, .ref 0, .ref 43, .int (nI i)], []) Q) : Go S 30 tL_law ((am_sh n, mI, mL, am_mR n), 203, [.retAddr 0, .ref 0, .ref 43, .int (nI i)], []) Q := by
  obtain ⟨v, n1, mI1, mL1, mI2, mL2, sT, sM, hR2, h1, h2⟩ := pr_play (S := S)  hR
  obtain ⟨z, hz⟩ := sp_int rfl sT
  subst hz
  refine go_aloadn_1 iL_law_203 rfl ?_
  refine gc_V1 iL_law_204 rfl (by decide) (sk_0 _) rfl (Nat.le_of_ble_eq_true rfl) (Nat.le_of_ble_eq_true rfl) (by decide) sT ?_
  refine go_aloadn_2 iL_law_207 rfl ?_
  refine gc_V1 iL_law_208 rfl (by decide) (sk_43 _) rfl (Nat.le_of_ble_eq_true rfl) (Nat.le_of_ble_eq_true rfl) (by decide) sM ?_
  refine go_ic_eq iL_law_211 (fun _ => ?_) (fun c => absurd rfl c)
  exact kq _ _ _ hR2
theorem lc_rested (hi : i + 6 ≤ S.1) (hL : S.1 ≤ 3072) (hR : Rel n mI mL) (kq : ∀ n mI mL, Rel n mI mL → Go S 30 tL_law ((am_sh n, mI, mL, am_mR n), 1222, [.retAddr 0, .ref 0, .ref 43, .int (nI i)], []) Q) : Go S 30 tL_law ((am_sh n, mI, mL, am_mR n), 216, [.retAddr 0, .ref 0, .ref 43, .int (nI i)], []) Q := by
  obtain ⟨v, n1, mI1, mL1, mI2, mL2, sT, sM, hR2, h1, h2⟩ := pr_rested (S := S) (S.2 (i + 1)) (S.2 (i + 2)) (S.2 (i + 3)) hR
  obtain ⟨z, hz⟩ := sp_int rfl sT
  subst hz
  refine go_aloadn_1 iL_law_216 rfl ?_
  refine go_aloadn_0 iL_law_217 rfl ?_
  refine go_iloadn_3 iL_law_218 ?_
  refine go_iconst (v := nI 1) iL_law_219 rfl ?_
  refine gn_iadd iL_law_220 ?_
  refine go_sld iL_law_221 rfl (by omega) (by omega) ?_
  refine go_aloadn_0 iL_law_222 rfl ?_
  refine go_iloadn_3 iL_law_223 ?_
  refine go_iconst (v := nI 2) iL_law_224 rfl ?_
  refine gn_iadd iL_law_225 ?_
  refine go_sld iL_law_226 rfl (by omega) (by omega) ?_
  refine go_aloadn_0 iL_law_227 rfl ?_
  refine go_iloadn_3 iL_law_228 ?_
  refine go_iconst (v := nI 3) iL_law_229 rfl ?_
  refine gn_iadd iL_law_230 ?_
  refine go_sld iL_law_231 rfl (by omega) (by omega) ?_
  refine gc_V1 iL_law_232 rfl (by decide) (sk_0 _) rfl (Nat.le_of_ble_eq_true rfl) (Nat.le_of_ble_eq_true rfl) (by decide) sT ?_
  refine go_aloadn_2 iL_law_235 rfl ?_
  refine go_aloadn_0 iL_law_236 rfl ?_
  refine go_iloadn_3 iL_law_237 ?_
  refine go_iconst (v := nI 1) iL_law_238 rfl ?_
  refine gn_iadd iL_law_239 ?_
  refine go_sld iL_law_240 rfl (by omega) (by omega) ?_
  refine go_aloadn_0 iL_law_241 rfl ?_
  refine go_iloadn_3 iL_law_242 ?_
  refine go_iconst (v := nI 2) iL_law_243 rfl ?_
  refine gn_iadd iL_law_244 ?_
  refine go_sld iL_law_245 rfl (by omega) (by omega) ?_
  refine go_aloadn_0 iL_law_246 rfl ?_
  refine go_iloadn_3 iL_law_247 ?_
  refine go_iconst (v := nI 3) iL_law_248 rfl ?_
  refine gn_iadd iL_law_249 ?_
  refine go_sld iL_law_250 rfl (by omega) (by omega) ?_
  refine gc_V1 iL_law_251 rfl (by decide) (sk_43 _) rfl (Nat.le_of_ble_eq_true rfl) (Nat.le_of_ble_eq_true rfl) (by decide) sM ?_
  refine go_ic_eq iL_law_254 (fun _ => ?_) (fun c => absurd rfl c)
  exact kq _ _ _ hR2
theorem lc_echo (hi : i + 6 ≤ S.1) (hL : S.1 ≤ 3072) (hR : Rel n mI mL) (kq : ∀ n mI mL, Rel n mI mL → Go S 30 tL_law ((am_sh n, mI, mL, am_mR n), 1222, [.retAddr 0, .ref 0, .ref 43, .int (nI i)], []) Q) : Go S 30 tL_law ((am_sh n, mI, mL, am_mR n), 259, [.retAddr 0, .ref 0, .ref 43, .int (nI i)], []) Q := by
  obtain ⟨v, n1, mI1, mL1, mI2, mL2, sT, sM, hR2, h1, h2⟩ := pr_echo (S := S) (S.2 (i + 1)) (S.2 (i + 2)) (S.2 (i + 3)) (S.2 (i + 4)) hR
  obtain ⟨z, hz⟩ := sp_int rfl sT
  subst hz
  refine go_aloadn_1 iL_law_259 rfl ?_
  refine go_aloadn_0 iL_law_260 rfl ?_
  refine go_iloadn_3 iL_law_261 ?_
  refine go_iconst (v := nI 1) iL_law_262 rfl ?_
  refine gn_iadd iL_law_263 ?_
  refine go_sld iL_law_264 rfl (by omega) (by omega) ?_
  refine go_aloadn_0 iL_law_265 rfl ?_
  refine go_iloadn_3 iL_law_266 ?_
  refine go_iconst (v := nI 2) iL_law_267 rfl ?_
  refine gn_iadd iL_law_268 ?_
  refine go_sld iL_law_269 rfl (by omega) (by omega) ?_
  refine go_aloadn_0 iL_law_270 rfl ?_
  refine go_iloadn_3 iL_law_271 ?_
  refine go_iconst (v := nI 3) iL_law_272 rfl ?_
  refine gn_iadd iL_law_273 ?_
  refine go_sld iL_law_274 rfl (by omega) (by omega) ?_
  refine go_aloadn_0 iL_law_275 rfl ?_
  refine go_iloadn_3 iL_law_276 ?_
  refine go_iconst (v := nI 4) iL_law_277 rfl ?_
  refine gn_iadd iL_law_278 ?_
  refine go_sld iL_law_279 rfl (by omega) (by omega) ?_
  refine gc_V1 iL_law_280 rfl (by decide) (sk_0 _) rfl (Nat.le_of_ble_eq_true rfl) (Nat.le_of_ble_eq_true rfl) (by decide) sT ?_
  refine go_aloadn_2 iL_law_283 rfl ?_
  refine go_aloadn_0 iL_law_284 rfl ?_
  refine go_iloadn_3 iL_law_285 ?_
  refine go_iconst (v := nI 1) iL_law_286 rfl ?_
  refine gn_iadd iL_law_287 ?_
  refine go_sld iL_law_288 rfl (by omega) (by omega) ?_
  refine go_aloadn_0 iL_law_289 rfl ?_
  refine go_iloadn_3 iL_law_290 ?_
  refine go_iconst (v := nI 2) iL_law_291 rfl ?_
  refine gn_iadd iL_law_292 ?_
  refine go_sld iL_law_293 rfl (by omega) (by omega) ?_
  refine go_aloadn_0 iL_law_294 rfl ?_
  refine go_iloadn_3 iL_law_295 ?_
  refine go_iconst (v := nI 3) iL_law_296 rfl ?_
  refine gn_iadd iL_law_297 ?_
  refine go_sld iL_law_298 rfl (by omega) (by omega) ?_
  refine go_aloadn_0 iL_law_299 rfl ?_
  refine go_iloadn_3 iL_law_300 ?_
  refine go_iconst (v := nI 4) iL_law_301 rfl ?_
  refine gn_iadd iL_law_302 ?_
  refine go_sld iL_law_303 rfl (by omega) (by omega) ?_
  refine gc_V1 iL_law_304 rfl (by decide) (sk_43 _) rfl (Nat.le_of_ble_eq_true rfl) (Nat.le_of_ble_eq_true rfl) (by decide) sM ?_
  refine go_ic_eq iL_law_307 (fun _ => ?_) (fun c => absurd rfl c)
  exact kq _ _ _ hR2
theorem lc_flat (hi : i + 6 ≤ S.1) (hL : S.1 ≤ 3072) (hR : Rel n mI mL) (kq : ∀ n mI mL, Rel n mI mL → Go S 30 tL_law ((am_sh n, mI, mL, am_mR n), 1222, [.retAddr 0, .ref 0, .ref 43, .int (nI i)], []) Q) : Go S 30 tL_law ((am_sh n, mI, mL, am_mR n), 312, [.retAddr 0, .ref 0, .ref 43, .int (nI i)], []) Q := by
  obtain ⟨v, n1, mI1, mL1, mI2, mL2, sT, sM, hR2, h1, h2⟩ := pr_flat (S := S) (S.2 (i + 1)) hR
  obtain ⟨z, hz⟩ := sp_int rfl sT
  subst hz
  refine go_aloadn_1 iL_law_312 rfl ?_
  refine go_aloadn_0 iL_law_313 rfl ?_
  refine go_iloadn_3 iL_law_314 ?_
  refine go_iconst (v := nI 1) iL_law_315 rfl ?_
  refine gn_iadd iL_law_316 ?_
  refine go_sld iL_law_317 rfl (by omega) (by omega) ?_
  refine gc_V1 iL_law_318 rfl (by decide) (sk_0 _) rfl (Nat.le_of_ble_eq_true rfl) (Nat.le_of_ble_eq_true rfl) (by decide) sT ?_
  refine go_aloadn_2 iL_law_321 rfl ?_
  refine go_aloadn_0 iL_law_322 rfl ?_
  refine go_iloadn_3 iL_law_323 ?_
  refine go_iconst (v := nI 1) iL_law_324 rfl ?_
  refine gn_iadd iL_law_325 ?_
  refine go_sld iL_law_326 rfl (by omega) (by omega) ?_
  refine gc_V1 iL_law_327 rfl (by decide) (sk_43 _) rfl (Nat.le_of_ble_eq_true rfl) (Nat.le_of_ble_eq_true rfl) (by decide) sM ?_
  refine go_ic_eq iL_law_330 (fun _ => ?_) (fun c => absurd rfl c)
  exact kq _ _ _ hR2
theorem lc_told (hi : i + 6 ≤ S.1) (hL : S.1 ≤ 3072) (hR : Rel n mI mL) (kq : ∀ n mI mL, Rel n mI mL → Go S 30 tL_law ((am_sh n, mI, mL, am_mR n), 1222, [.retAddr 0, .ref 0, .ref 43, .int (nI i)], []) Q) : Go S 30 tL_law ((am_sh n, mI, mL, am_mR n), 335, [.retAddr 0, .ref 0, .ref 43, .int (nI i)], []) Q := by
  obtain ⟨v, n1, mI1, mL1, mI2, mL2, sT, sM, hR2, h1, h2⟩ := pr_told (S := S) (S.2 (i + 1)) (S.2 (i + 2)) hR
  obtain ⟨z, hz⟩ := sp_int rfl sT
  subst hz
  refine go_aloadn_1 iL_law_335 rfl ?_
  refine go_aloadn_0 iL_law_336 rfl ?_
  refine go_iloadn_3 iL_law_337 ?_
  refine go_iconst (v := nI 1) iL_law_338 rfl ?_
  refine gn_iadd iL_law_339 ?_
  refine go_sld iL_law_340 rfl (by omega) (by omega) ?_
  refine go_aloadn_0 iL_law_341 rfl ?_
  refine go_iloadn_3 iL_law_342 ?_
  refine go_iconst (v := nI 2) iL_law_343 rfl ?_
  refine gn_iadd iL_law_344 ?_
  refine go_sld iL_law_345 rfl (by omega) (by omega) ?_
  refine gc_V1 iL_law_346 rfl (by decide) (sk_0 _) rfl (Nat.le_of_ble_eq_true rfl) (Nat.le_of_ble_eq_true rfl) (by decide) sT ?_
  refine go_aloadn_2 iL_law_349 rfl ?_
  refine go_aloadn_0 iL_law_350 rfl ?_
  refine go_iloadn_3 iL_law_351 ?_
  refine go_iconst (v := nI 1) iL_law_352 rfl ?_
  refine gn_iadd iL_law_353 ?_
  refine go_sld iL_law_354 rfl (by omega) (by omega) ?_
  refine go_aloadn_0 iL_law_355 rfl ?_
  refine go_iloadn_3 iL_law_356 ?_
  refine go_iconst (v := nI 2) iL_law_357 rfl ?_
  refine gn_iadd iL_law_358 ?_
  refine go_sld iL_law_359 rfl (by omega) (by omega) ?_
  refine gc_V1 iL_law_360 rfl (by decide) (sk_43 _) rfl (Nat.le_of_ble_eq_true rfl) (Nat.le_of_ble_eq_true rfl) (by decide) sM ?_
  refine go_ic_eq iL_law_363 (fun _ => ?_) (fun c => absurd rfl c)
  exact kq _ _ _ hR2
theorem lc_mark (hi : i + 6 ≤ S.1) (hL : S.1 ≤ 3072) (hR : Rel n mI mL) (kq : ∀ n mI mL, Rel n mI mL → Go S 30 tL_law ((am_sh n, mI, mL, am_mR n), 1222, [.retAddr 0, .ref 0, .ref 43, .int (nI i)], []) Q) : Go S 30 tL_law ((am_sh n, mI, mL, am_mR n), 368, [.retAddr 0, .ref 0, .ref 43, .int (nI i)], []) Q := by
  obtain ⟨v, n1, mI1, mL1, mI2, mL2, sT, sM, hR2, h1, h2⟩ := pr_mark (S := S) (S.2 (i + 1)) (S.2 (i + 2)) hR
  obtain ⟨z, hz⟩ := sp_int rfl sT
  subst hz
  refine go_aloadn_1 iL_law_368 rfl ?_
  refine go_aloadn_0 iL_law_369 rfl ?_
  refine go_iloadn_3 iL_law_370 ?_
  refine go_iconst (v := nI 1) iL_law_371 rfl ?_
  refine gn_iadd iL_law_372 ?_
  refine go_sld iL_law_373 rfl (by omega) (by omega) ?_
  refine go_aloadn_0 iL_law_374 rfl ?_
  refine go_iloadn_3 iL_law_375 ?_
  refine go_iconst (v := nI 2) iL_law_376 rfl ?_
  refine gn_iadd iL_law_377 ?_
  refine go_sld iL_law_378 rfl (by omega) (by omega) ?_
  refine gc_V1 iL_law_379 rfl (by decide) (sk_0 _) rfl (Nat.le_of_ble_eq_true rfl) (Nat.le_of_ble_eq_true rfl) (by decide) sT ?_
  refine go_aloadn_2 iL_law_382 rfl ?_
  refine go_aloadn_0 iL_law_383 rfl ?_
  refine go_iloadn_3 iL_law_384 ?_
  refine go_iconst (v := nI 1) iL_law_385 rfl ?_
  refine gn_iadd iL_law_386 ?_
  refine go_sld iL_law_387 rfl (by omega) (by omega) ?_
  refine go_aloadn_0 iL_law_388 rfl ?_
  refine go_iloadn_3 iL_law_389 ?_
  refine go_iconst (v := nI 2) iL_law_390 rfl ?_
  refine gn_iadd iL_law_391 ?_
  refine go_sld iL_law_392 rfl (by omega) (by omega) ?_
  refine gc_V1 iL_law_393 rfl (by decide) (sk_43 _) rfl (Nat.le_of_ble_eq_true rfl) (Nat.le_of_ble_eq_true rfl) (by decide) sM ?_
  refine go_ic_eq iL_law_396 (fun _ => ?_) (fun c => absurd rfl c)
  exact kq _ _ _ hR2
theorem lc_odds (hi : i + 6 ≤ S.1) (hL : S.1 ≤ 3072) (hR : Rel n mI mL) (kq : ∀ n mI mL, Rel n mI mL → Go S 30 tL_law ((am_sh n, mI, mL, am_mR n), 1222, [.retAddr 0, .ref 0, .ref 43, .int (nI i)], []) Q) : Go S 30 tL_law ((am_sh n, mI, mL, am_mR n), 401, [.retAddr 0, .ref 0, .ref 43, .int (nI i)], []) Q := by
  obtain ⟨v, n1, mI1, mL1, mI2, mL2, sT, sM, hR2, h1, h2⟩ := pr_odds (S := S) (S.2 (i + 1)) (S.2 (i + 2)) hR
  obtain ⟨z, hz⟩ := sp_int rfl sT
  subst hz
  refine go_aloadn_1 iL_law_401 rfl ?_
  refine go_aloadn_0 iL_law_402 rfl ?_
  refine go_iloadn_3 iL_law_403 ?_
  refine go_iconst (v := nI 1) iL_law_404 rfl ?_
  refine gn_iadd iL_law_405 ?_
  refine go_sld iL_law_406 rfl (by omega) (by omega) ?_
  refine go_aloadn_0 iL_law_407 rfl ?_
  refine go_iloadn_3 iL_law_408 ?_
  refine go_iconst (v := nI 2) iL_law_409 rfl ?_
  refine gn_iadd iL_law_410 ?_
  refine go_sld iL_law_411 rfl (by omega) (by omega) ?_
  refine gc_V1 iL_law_412 rfl (by decide) (sk_0 _) rfl (Nat.le_of_ble_eq_true rfl) (Nat.le_of_ble_eq_true rfl) (by decide) sT ?_
  refine go_aloadn_2 iL_law_415 rfl ?_
  refine go_aloadn_0 iL_law_416 rfl ?_
  refine go_iloadn_3 iL_law_417 ?_
  refine go_iconst (v := nI 1) iL_law_418 rfl ?_
  refine gn_iadd iL_law_419 ?_
  refine go_sld iL_law_420 rfl (by omega) (by omega) ?_
  refine go_aloadn_0 iL_law_421 rfl ?_
  refine go_iloadn_3 iL_law_422 ?_
  refine go_iconst (v := nI 2) iL_law_423 rfl ?_
  refine gn_iadd iL_law_424 ?_
  refine go_sld iL_law_425 rfl (by omega) (by omega) ?_
  refine gc_V1 iL_law_426 rfl (by decide) (sk_43 _) rfl (Nat.le_of_ble_eq_true rfl) (Nat.le_of_ble_eq_true rfl) (by decide) sM ?_
  refine go_ic_eq iL_law_429 (fun _ => ?_) (fun c => absurd rfl c)
  exact kq _ _ _ hR2
theorem lc_change (hi : i + 6 ≤ S.1) (hL : S.1 ≤ 3072) (hR : Rel n mI mL) (kq : ∀ n mI mL, Rel n mI mL → Go S 30 tL_law ((am_sh n, mI, mL, am_mR n), 1222, [.retAddr 0, .ref 0, .ref 43, .int (nI i)], []) Q) : Go S 30 tL_law ((am_sh n, mI, mL, am_mR n), 434, [.retAddr 0, .ref 0, .ref 43, .int (nI i)], []) Q := by
  obtain ⟨v, n1, mI1, mL1, mI2, mL2, sT, sM, hR2, h1, h2⟩ := pr_change (S := S) (S.2 (i + 1)) (S.2 (i + 2)) (S.2 (i + 3)) hR
  obtain ⟨z, hz⟩ := sp_int rfl sT
  subst hz
  refine go_aloadn_1 iL_law_434 rfl ?_
  refine go_aloadn_0 iL_law_435 rfl ?_
  refine go_iloadn_3 iL_law_436 ?_
  refine go_iconst (v := nI 1) iL_law_437 rfl ?_
  refine gn_iadd iL_law_438 ?_
  refine go_sld iL_law_439 rfl (by omega) (by omega) ?_
  refine go_aloadn_0 iL_law_440 rfl ?_
  refine go_iloadn_3 iL_law_441 ?_
  refine go_iconst (v := nI 2) iL_law_442 rfl ?_
  refine gn_iadd iL_law_443 ?_
  refine go_sld iL_law_444 rfl (by omega) (by omega) ?_
  refine go_aloadn_0 iL_law_445 rfl ?_
  refine go_iloadn_3 iL_law_446 ?_
  refine go_iconst (v := nI 3) iL_law_447 rfl ?_
  refine gn_iadd iL_law_448 ?_
  refine go_sld iL_law_449 rfl (by omega) (by omega) ?_
  refine gc_V1 iL_law_450 rfl (by decide) (sk_0 _) rfl (Nat.le_of_ble_eq_true rfl) (Nat.le_of_ble_eq_true rfl) (by decide) sT ?_
  refine go_aloadn_2 iL_law_453 rfl ?_
  refine go_aloadn_0 iL_law_454 rfl ?_
  refine go_iloadn_3 iL_law_455 ?_
  refine go_iconst (v := nI 1) iL_law_456 rfl ?_
  refine gn_iadd iL_law_457 ?_
  refine go_sld iL_law_458 rfl (by omega) (by omega) ?_
  refine go_aloadn_0 iL_law_459 rfl ?_
  refine go_iloadn_3 iL_law_460 ?_
  refine go_iconst (v := nI 2) iL_law_461 rfl ?_
  refine gn_iadd iL_law_462 ?_
  refine go_sld iL_law_463 rfl (by omega) (by omega) ?_
  refine go_aloadn_0 iL_law_464 rfl ?_
  refine go_iloadn_3 iL_law_465 ?_
  refine go_iconst (v := nI 3) iL_law_466 rfl ?_
  refine gn_iadd iL_law_467 ?_
  refine go_sld iL_law_468 rfl (by omega) (by omega) ?_
  refine gc_V1 iL_law_469 rfl (by decide) (sk_43 _) rfl (Nat.le_of_ble_eq_true rfl) (Nat.le_of_ble_eq_true rfl) (by decide) sM ?_
  refine go_ic_eq iL_law_472 (fun _ => ?_) (fun c => absurd rfl c)
  exact kq _ _ _ hR2
theorem lc_mean (hi : i + 6 ≤ S.1) (hL : S.1 ≤ 3072) (hR : Rel n mI mL) (kq : ∀ n mI mL, Rel n mI mL → Go S 30 tL_law ((am_sh n, mI, mL, am_mR n), 1222, [.retAddr 0, .ref 0, .ref 43, .int (nI i)], []) Q) : Go S 30 tL_law ((am_sh n, mI, mL, am_mR n), 477, [.retAddr 0, .ref 0, .ref 43, .int (nI i)], []) Q := by
  obtain ⟨v, n1, mI1, mL1, mI2, mL2, sT, sM, hR2, h1, h2⟩ := pr_mean (S := S) (S.2 (i + 1)) hR
  obtain ⟨z, hz⟩ := sp_int rfl sT
  subst hz
  refine go_aloadn_1 iL_law_477 rfl ?_
  refine go_aloadn_0 iL_law_478 rfl ?_
  refine go_iloadn_3 iL_law_479 ?_
  refine go_iconst (v := nI 1) iL_law_480 rfl ?_
  refine gn_iadd iL_law_481 ?_
  refine go_sld iL_law_482 rfl (by omega) (by omega) ?_
  refine gc_V1 iL_law_483 rfl (by decide) (sk_0 _) rfl (Nat.le_of_ble_eq_true rfl) (Nat.le_of_ble_eq_true rfl) (by decide) sT ?_
  refine go_aloadn_2 iL_law_486 rfl ?_
  refine go_aloadn_0 iL_law_487 rfl ?_
  refine go_iloadn_3 iL_law_488 ?_
  refine go_iconst (v := nI 1) iL_law_489 rfl ?_
  refine gn_iadd iL_law_490 ?_
  refine go_sld iL_law_491 rfl (by omega) (by omega) ?_
  refine gc_V1 iL_law_492 rfl (by decide) (sk_43 _) rfl (Nat.le_of_ble_eq_true rfl) (Nat.le_of_ble_eq_true rfl) (by decide) sM ?_
  refine go_ic_eq iL_law_495 (fun _ => ?_) (fun c => absurd rfl c)
  exact kq _ _ _ hR2
theorem lc_row (hi : i + 6 ≤ S.1) (hL : S.1 ≤ 3072) (hR : Rel n mI mL) (kq : ∀ n mI mL, Rel n mI mL → Go S 30 tL_law ((am_sh n, mI, mL, am_mR n), 1222, [.retAddr 0, .ref 0, .ref 43, .int (nI i)], []) Q) : Go S 30 tL_law ((am_sh n, mI, mL, am_mR n), 500, [.retAddr 0, .ref 0, .ref 43, .int (nI i)], []) Q := by
  obtain ⟨v, n1, mI1, mL1, mI2, mL2, sT, sM, hR2, h1, h2⟩ := pr_row (S := S) (S.2 (i + 1)) (S.2 (i + 2)) hR
  obtain ⟨z, hz⟩ := sp_int rfl sT
  subst hz
  refine go_aloadn_1 iL_law_500 rfl ?_
  refine go_aloadn_0 iL_law_501 rfl ?_
  refine go_iloadn_3 iL_law_502 ?_
  refine go_iconst (v := nI 1) iL_law_503 rfl ?_
  refine gn_iadd iL_law_504 ?_
  refine go_sld iL_law_505 rfl (by omega) (by omega) ?_
  refine go_aloadn_0 iL_law_506 rfl ?_
  refine go_iloadn_3 iL_law_507 ?_
  refine go_iconst (v := nI 2) iL_law_508 rfl ?_
  refine gn_iadd iL_law_509 ?_
  refine go_sld iL_law_510 rfl (by omega) (by omega) ?_
  refine gc_V1 iL_law_511 rfl (by decide) (sk_0 _) rfl (Nat.le_of_ble_eq_true rfl) (Nat.le_of_ble_eq_true rfl) (by decide) sT ?_
  refine go_aloadn_2 iL_law_514 rfl ?_
  refine go_aloadn_0 iL_law_515 rfl ?_
  refine go_iloadn_3 iL_law_516 ?_
  refine go_iconst (v := nI 1) iL_law_517 rfl ?_
  refine gn_iadd iL_law_518 ?_
  refine go_sld iL_law_519 rfl (by omega) (by omega) ?_
  refine go_aloadn_0 iL_law_520 rfl ?_
  refine go_iloadn_3 iL_law_521 ?_
  refine go_iconst (v := nI 2) iL_law_522 rfl ?_
  refine gn_iadd iL_law_523 ?_
  refine go_sld iL_law_524 rfl (by omega) (by omega) ?_
  refine gc_V1 iL_law_525 rfl (by decide) (sk_43 _) rfl (Nat.le_of_ble_eq_true rfl) (Nat.le_of_ble_eq_true rfl) (by decide) sM ?_
  refine go_ic_eq iL_law_528 (fun _ => ?_) (fun c => absurd rfl c)
  exact kq _ _ _ hR2
theorem lc_lay (hi : i + 6 ≤ S.1) (hL : S.1 ≤ 3072) (hR : Rel n mI mL) (kq : ∀ n mI mL, Rel n mI mL → Go S 30 tL_law ((am_sh n, mI, mL, am_mR n), 1222, [.retAddr 0, .ref 0, .ref 43, .int (nI i)], []) Q) : Go S 30 tL_law ((am_sh n, mI, mL, am_mR n), 533, [.retAddr 0, .ref 0, .ref 43, .int (nI i)], []) Q := by
  obtain ⟨v, n1, mI1, mL1, mI2, mL2, sT, sM, hR2, h1, h2⟩ := pr_lay (S := S) (S.2 (i + 1)) (S.2 (i + 2)) (S.2 (i + 3)) hR
  obtain ⟨z, hz⟩ := sp_int rfl sT
  subst hz
  refine go_aloadn_1 iL_law_533 rfl ?_
  refine go_aloadn_0 iL_law_534 rfl ?_
  refine go_iloadn_3 iL_law_535 ?_
  refine go_iconst (v := nI 1) iL_law_536 rfl ?_
  refine gn_iadd iL_law_537 ?_
  refine go_sld iL_law_538 rfl (by omega) (by omega) ?_
  refine go_aloadn_0 iL_law_539 rfl ?_
  refine go_iloadn_3 iL_law_540 ?_
  refine go_iconst (v := nI 2) iL_law_541 rfl ?_
  refine gn_iadd iL_law_542 ?_
  refine go_sld iL_law_543 rfl (by omega) (by omega) ?_
  refine go_aloadn_0 iL_law_544 rfl ?_
  refine go_iloadn_3 iL_law_545 ?_
  refine go_iconst (v := nI 3) iL_law_546 rfl ?_
  refine gn_iadd iL_law_547 ?_
  refine go_sld iL_law_548 rfl (by omega) (by omega) ?_
  refine gc_V1 iL_law_549 rfl (by decide) (sk_0 _) rfl (Nat.le_of_ble_eq_true rfl) (Nat.le_of_ble_eq_true rfl) (by decide) sT ?_
  refine go_aloadn_2 iL_law_552 rfl ?_
  refine go_aloadn_0 iL_law_553 rfl ?_
  refine go_iloadn_3 iL_law_554 ?_
  refine go_iconst (v := nI 1) iL_law_555 rfl ?_
  refine gn_iadd iL_law_556 ?_
  refine go_sld iL_law_557 rfl (by omega) (by omega) ?_
  refine go_aloadn_0 iL_law_558 rfl ?_
  refine go_iloadn_3 iL_law_559 ?_
  refine go_iconst (v := nI 2) iL_law_560 rfl ?_
  refine gn_iadd iL_law_561 ?_
  refine go_sld iL_law_562 rfl (by omega) (by omega) ?_
  refine go_aloadn_0 iL_law_563 rfl ?_
  refine go_iloadn_3 iL_law_564 ?_
  refine go_iconst (v := nI 3) iL_law_565 rfl ?_
  refine gn_iadd iL_law_566 ?_
  refine go_sld iL_law_567 rfl (by omega) (by omega) ?_
  refine gc_V1 iL_law_568 rfl (by decide) (sk_43 _) rfl (Nat.le_of_ble_eq_true rfl) (Nat.le_of_ble_eq_true rfl) (by decide) sM ?_
  refine go_ic_eq iL_law_571 (fun _ => ?_) (fun c => absurd rfl c)
  exact kq _ _ _ hR2
theorem lc_tear (hi : i + 6 ≤ S.1) (hL : S.1 ≤ 3072) (hR : Rel n mI mL) (kq : ∀ n mI mL, Rel n mI mL → Go S 30 tL_law ((am_sh n, mI, mL, am_mR n), 1222, [.retAddr 0, .ref 0, .ref 43, .int (nI i)], []) Q) : Go S 30 tL_law ((am_sh n, mI, mL, am_mR n), 576, [.retAddr 0, .ref 0, .ref 43, .int (nI i)], []) Q := by
  obtain ⟨v, n1, mI1, mL1, mI2, mL2, sT, sM, hR2, h1, h2⟩ := pr_tear (S := S) (S.2 (i + 1)) hR
  obtain ⟨z, hz⟩ := sp_int rfl sT
  subst hz
  refine go_aloadn_1 iL_law_576 rfl ?_
  refine go_aloadn_0 iL_law_577 rfl ?_
  refine go_iloadn_3 iL_law_578 ?_
  refine go_iconst (v := nI 1) iL_law_579 rfl ?_
  refine gn_iadd iL_law_580 ?_
  refine go_sld iL_law_581 rfl (by omega) (by omega) ?_
  refine gc_V1 iL_law_582 rfl (by decide) (sk_0 _) rfl (Nat.le_of_ble_eq_true rfl) (Nat.le_of_ble_eq_true rfl) (by decide) sT ?_
  refine go_aloadn_2 iL_law_585 rfl ?_
  refine go_aloadn_0 iL_law_586 rfl ?_
  refine go_iloadn_3 iL_law_587 ?_
  refine go_iconst (v := nI 1) iL_law_588 rfl ?_
  refine gn_iadd iL_law_589 ?_
  refine go_sld iL_law_590 rfl (by omega) (by omega) ?_
  refine gc_V1 iL_law_591 rfl (by decide) (sk_43 _) rfl (Nat.le_of_ble_eq_true rfl) (Nat.le_of_ble_eq_true rfl) (by decide) sM ?_
  refine go_ic_eq iL_law_594 (fun _ => ?_) (fun c => absurd rfl c)
  exact kq _ _ _ hR2
theorem lc_copy (hi : i + 6 ≤ S.1) (hL : S.1 ≤ 3072) (hR : Rel n mI mL) (kq : ∀ n mI mL, Rel n mI mL → Go S 30 tL_law ((am_sh n, mI, mL, am_mR n), 1222, [.retAddr 0, .ref 0, .ref 43, .int (nI i)], []) Q) : Go S 30 tL_law ((am_sh n, mI, mL, am_mR n), 599, [.retAddr 0, .ref 0, .ref 43, .int (nI i)], []) Q := by
  obtain ⟨v, n1, mI1, mL1, mI2, mL2, sT, sM, hR2, h1, h2⟩ := pr_copy (S := S) (S.2 (i + 1)) (S.2 (i + 2)) (S.2 (i + 3)) (S.2 (i + 4)) (S.2 (i + 5)) hR
  obtain ⟨z, hz⟩ := sp_int rfl sT
  subst hz
  refine go_aloadn_1 iL_law_599 rfl ?_
  refine go_aloadn_0 iL_law_600 rfl ?_
  refine go_iloadn_3 iL_law_601 ?_
  refine go_iconst (v := nI 1) iL_law_602 rfl ?_
  refine gn_iadd iL_law_603 ?_
  refine go_sld iL_law_604 rfl (by omega) (by omega) ?_
  refine go_aloadn_0 iL_law_605 rfl ?_
  refine go_iloadn_3 iL_law_606 ?_
  refine go_iconst (v := nI 2) iL_law_607 rfl ?_
  refine gn_iadd iL_law_608 ?_
  refine go_sld iL_law_609 rfl (by omega) (by omega) ?_
  refine go_aloadn_0 iL_law_610 rfl ?_
  refine go_iloadn_3 iL_law_611 ?_
  refine go_iconst (v := nI 3) iL_law_612 rfl ?_
  refine gn_iadd iL_law_613 ?_
  refine go_sld iL_law_614 rfl (by omega) (by omega) ?_
  refine go_aloadn_0 iL_law_615 rfl ?_
  refine go_iloadn_3 iL_law_616 ?_
  refine go_iconst (v := nI 4) iL_law_617 rfl ?_
  refine gn_iadd iL_law_618 ?_
  refine go_sld iL_law_619 rfl (by omega) (by omega) ?_
  refine go_aloadn_0 iL_law_620 rfl ?_
  refine go_iloadn_3 iL_law_621 ?_
  refine go_iconst (v := nI 5) iL_law_622 rfl ?_
  refine gn_iadd iL_law_623 ?_
  refine go_sld iL_law_624 rfl (by omega) (by omega) ?_
  refine gc_V1 iL_law_625 rfl (by decide) (sk_0 _) rfl (Nat.le_of_ble_eq_true rfl) (Nat.le_of_ble_eq_true rfl) (by decide) sT ?_
  refine go_aloadn_2 iL_law_628 rfl ?_
  refine go_aloadn_0 iL_law_629 rfl ?_
  refine go_iloadn_3 iL_law_630 ?_
  refine go_iconst (v := nI 1) iL_law_631 rfl ?_
  refine gn_iadd iL_law_632 ?_
  refine go_sld iL_law_633 rfl (by omega) (by omega) ?_
  refine go_aloadn_0 iL_law_634 rfl ?_
  refine go_iloadn_3 iL_law_635 ?_
  refine go_iconst (v := nI 2) iL_law_636 rfl ?_
  refine gn_iadd iL_law_637 ?_
  refine go_sld iL_law_638 rfl (by omega) (by omega) ?_
  refine go_aloadn_0 iL_law_639 rfl ?_
  refine go_iloadn_3 iL_law_640 ?_
  refine go_iconst (v := nI 3) iL_law_641 rfl ?_
  refine gn_iadd iL_law_642 ?_
  refine go_sld iL_law_643 rfl (by omega) (by omega) ?_
  refine go_aloadn_0 iL_law_644 rfl ?_
  refine go_iloadn_3 iL_law_645 ?_
  refine go_iconst (v := nI 4) iL_law_646 rfl ?_
  refine gn_iadd iL_law_647 ?_
  refine go_sld iL_law_648 rfl (by omega) (by omega) ?_
  refine go_aloadn_0 iL_law_649 rfl ?_
  refine go_iloadn_3 iL_law_650 ?_
  refine go_iconst (v := nI 5) iL_law_651 rfl ?_
  refine gn_iadd iL_law_652 ?_
  refine go_sld iL_law_653 rfl (by omega) (by omega) ?_
  refine gc_V1 iL_law_654 rfl (by decide) (sk_43 _) rfl (Nat.le_of_ble_eq_true rfl) (Nat.le_of_ble_eq_true rfl) (by decide) sM ?_
  refine go_ic_eq iL_law_657 (fun _ => ?_) (fun c => absurd rfl c)
  exact kq _ _ _ hR2
theorem lc_leads (hi : i + 6 ≤ S.1) (hL : S.1 ≤ 3072) (hR : Rel n mI mL) (kq : ∀ n mI mL, Rel n mI mL → Go S 30 tL_law ((am_sh n, mI, mL, am_mR n), 1222, [.retAddr 0, .ref 0, .ref 43, .int (nI i)], []) Q) : Go S 30 tL_law ((am_sh n, mI, mL, am_mR n), 662, [.retAddr 0, .ref 0, .ref 43, .int (nI i)], []) Q := by
  obtain ⟨v, n1, mI1, mL1, mI2, mL2, sT, sM, hR2, h1, h2⟩ := pr_leads (S := S) (S.2 (i + 1)) (S.2 (i + 2)) (S.2 (i + 3)) hR
  obtain ⟨z, hz⟩ := sp_int rfl sT
  subst hz
  refine go_aloadn_1 iL_law_662 rfl ?_
  refine go_aloadn_0 iL_law_663 rfl ?_
  refine go_iloadn_3 iL_law_664 ?_
  refine go_iconst (v := nI 1) iL_law_665 rfl ?_
  refine gn_iadd iL_law_666 ?_
  refine go_sld iL_law_667 rfl (by omega) (by omega) ?_
  refine go_aloadn_0 iL_law_668 rfl ?_
  refine go_iloadn_3 iL_law_669 ?_
  refine go_iconst (v := nI 2) iL_law_670 rfl ?_
  refine gn_iadd iL_law_671 ?_
  refine go_sld iL_law_672 rfl (by omega) (by omega) ?_
  refine go_aloadn_0 iL_law_673 rfl ?_
  refine go_iloadn_3 iL_law_674 ?_
  refine go_iconst (v := nI 3) iL_law_675 rfl ?_
  refine gn_iadd iL_law_676 ?_
  refine go_sld iL_law_677 rfl (by omega) (by omega) ?_
  refine gc_V1 iL_law_678 rfl (by decide) (sk_0 _) rfl (Nat.le_of_ble_eq_true rfl) (Nat.le_of_ble_eq_true rfl) (by decide) sT ?_
  refine go_aloadn_2 iL_law_681 rfl ?_
  refine go_aloadn_0 iL_law_682 rfl ?_
  refine go_iloadn_3 iL_law_683 ?_
  refine go_iconst (v := nI 1) iL_law_684 rfl ?_
  refine gn_iadd iL_law_685 ?_
  refine go_sld iL_law_686 rfl (by omega) (by omega) ?_
  refine go_aloadn_0 iL_law_687 rfl ?_
  refine go_iloadn_3 iL_law_688 ?_
  refine go_iconst (v := nI 2) iL_law_689 rfl ?_
  refine gn_iadd iL_law_690 ?_
  refine go_sld iL_law_691 rfl (by omega) (by omega) ?_
  refine go_aloadn_0 iL_law_692 rfl ?_
  refine go_iloadn_3 iL_law_693 ?_
  refine go_iconst (v := nI 3) iL_law_694 rfl ?_
  refine gn_iadd iL_law_695 ?_
  refine go_sld iL_law_696 rfl (by omega) (by omega) ?_
  refine gc_V1 iL_law_697 rfl (by decide) (sk_43 _) rfl (Nat.le_of_ble_eq_true rfl) (Nat.le_of_ble_eq_true rfl) (by decide) sM ?_
  refine go_ic_eq iL_law_700 (fun _ => ?_) (fun c => absurd rfl c)
  exact kq _ _ _ hR2
theorem lc_share (hi : i + 6 ≤ S.1) (hL : S.1 ≤ 3072) (hR : Rel n mI mL) (kq : ∀ n mI mL, Rel n mI mL → Go S 30 tL_law ((am_sh n, mI, mL, am_mR n), 1222, [.retAddr 0, .ref 0, .ref 43, .int (nI i)], []) Q) : Go S 30 tL_law ((am_sh n, mI, mL, am_mR n), 705, [.retAddr 0, .ref 0, .ref 43, .int (nI i)], []) Q := by
  obtain ⟨v, n1, mI1, mL1, mI2, mL2, sT, sM, hR2, h1, h2⟩ := pr_share (S := S) (S.2 (i + 1)) (S.2 (i + 2)) hR
  obtain ⟨z, hz⟩ := sp_int rfl sT
  subst hz
  refine go_aloadn_1 iL_law_705 rfl ?_
  refine go_aloadn_0 iL_law_706 rfl ?_
  refine go_iloadn_3 iL_law_707 ?_
  refine go_iconst (v := nI 1) iL_law_708 rfl ?_
  refine gn_iadd iL_law_709 ?_
  refine go_sld iL_law_710 rfl (by omega) (by omega) ?_
  refine go_aloadn_0 iL_law_711 rfl ?_
  refine go_iloadn_3 iL_law_712 ?_
  refine go_iconst (v := nI 2) iL_law_713 rfl ?_
  refine gn_iadd iL_law_714 ?_
  refine go_sld iL_law_715 rfl (by omega) (by omega) ?_
  refine gc_V1 iL_law_716 rfl (by decide) (sk_0 _) rfl (Nat.le_of_ble_eq_true rfl) (Nat.le_of_ble_eq_true rfl) (by decide) sT ?_
  refine go_aloadn_2 iL_law_719 rfl ?_
  refine go_aloadn_0 iL_law_720 rfl ?_
  refine go_iloadn_3 iL_law_721 ?_
  refine go_iconst (v := nI 1) iL_law_722 rfl ?_
  refine gn_iadd iL_law_723 ?_
  refine go_sld iL_law_724 rfl (by omega) (by omega) ?_
  refine go_aloadn_0 iL_law_725 rfl ?_
  refine go_iloadn_3 iL_law_726 ?_
  refine go_iconst (v := nI 2) iL_law_727 rfl ?_
  refine gn_iadd iL_law_728 ?_
  refine go_sld iL_law_729 rfl (by omega) (by omega) ?_
  refine gc_V1 iL_law_730 rfl (by decide) (sk_43 _) rfl (Nat.le_of_ble_eq_true rfl) (Nat.le_of_ble_eq_true rfl) (by decide) sM ?_
  refine go_ic_eq iL_law_733 (fun _ => ?_) (fun c => absurd rfl c)
  exact kq _ _ _ hR2
theorem lc_gain (hi : i + 6 ≤ S.1) (hL : S.1 ≤ 3072) (hR : Rel n mI mL) (kq : ∀ n mI mL, Rel n mI mL → Go S 30 tL_law ((am_sh n, mI, mL, am_mR n), 1222, [.retAddr 0, .ref 0, .ref 43, .int (nI i)], []) Q) : Go S 30 tL_law ((am_sh n, mI, mL, am_mR n), 738, [.retAddr 0, .ref 0, .ref 43, .int (nI i)], []) Q := by
  obtain ⟨v, n1, mI1, mL1, mI2, mL2, sT, sM, hR2, h1, h2⟩ := pr_gain (S := S) (S.2 (i + 1)) hR
  obtain ⟨z, hz⟩ := sp_int rfl sT
  subst hz
  refine go_aloadn_1 iL_law_738 rfl ?_
  refine go_aloadn_0 iL_law_739 rfl ?_
  refine go_iloadn_3 iL_law_740 ?_
  refine go_iconst (v := nI 1) iL_law_741 rfl ?_
  refine gn_iadd iL_law_742 ?_
  refine go_sld iL_law_743 rfl (by omega) (by omega) ?_
  refine gc_V1 iL_law_744 rfl (by decide) (sk_0 _) rfl (Nat.le_of_ble_eq_true rfl) (Nat.le_of_ble_eq_true rfl) (by decide) sT ?_
  refine go_aloadn_2 iL_law_747 rfl ?_
  refine go_aloadn_0 iL_law_748 rfl ?_
  refine go_iloadn_3 iL_law_749 ?_
  refine go_iconst (v := nI 1) iL_law_750 rfl ?_
  refine gn_iadd iL_law_751 ?_
  refine go_sld iL_law_752 rfl (by omega) (by omega) ?_
  refine gc_V1 iL_law_753 rfl (by decide) (sk_43 _) rfl (Nat.le_of_ble_eq_true rfl) (Nat.le_of_ble_eq_true rfl) (by decide) sM ?_
  refine go_ic_eq iL_law_756 (fun _ => ?_) (fun c => absurd rfl c)
  exact kq _ _ _ hR2
theorem lc_lot (hi : i + 6 ≤ S.1) (hL : S.1 ≤ 3072) (hR : Rel n mI mL) (kq : ∀ n mI mL, Rel n mI mL → Go S 30 tL_law ((am_sh n, mI, mL, am_mR n), 1222, [.retAddr 0, .ref 0, .ref 43, .int (nI i)], []) Q) : Go S 30 tL_law ((am_sh n, mI, mL, am_mR n), 761, [.retAddr 0, .ref 0, .ref 43, .int (nI i)], []) Q := by
  obtain ⟨v, n1, mI1, mL1, mI2, mL2, sT, sM, hR2, h1, h2⟩ := pr_lot (S := S) (S.2 (i + 1)) (S.2 (i + 2)) (S.2 (i + 3)) hR
  obtain ⟨z, hz⟩ := sp_int rfl sT
  subst hz
  refine go_aloadn_1 iL_law_761 rfl ?_
  refine go_aloadn_0 iL_law_762 rfl ?_
  refine go_iloadn_3 iL_law_763 ?_
  refine go_iconst (v := nI 1) iL_law_764 rfl ?_
  refine gn_iadd iL_law_765 ?_
  refine go_sld iL_law_766 rfl (by omega) (by omega) ?_
  refine go_aloadn_0 iL_law_767 rfl ?_
  refine go_iloadn_3 iL_law_768 ?_
  refine go_iconst (v := nI 2) iL_law_769 rfl ?_
  refine gn_iadd iL_law_770 ?_
  refine go_sld iL_law_771 rfl (by omega) (by omega) ?_
  refine go_aloadn_0 iL_law_772 rfl ?_
  refine go_iloadn_3 iL_law_773 ?_
  refine go_iconst (v := nI 3) iL_law_774 rfl ?_
  refine gn_iadd iL_law_775 ?_
  refine go_sld iL_law_776 rfl (by omega) (by omega) ?_
  refine gc_V1 iL_law_777 rfl (by decide) (sk_0 _) rfl (Nat.le_of_ble_eq_true rfl) (Nat.le_of_ble_eq_true rfl) (by decide) sT ?_
  refine go_aloadn_2 iL_law_780 rfl ?_
  refine go_aloadn_0 iL_law_781 rfl ?_
  refine go_iloadn_3 iL_law_782 ?_
  refine go_iconst (v := nI 1) iL_law_783 rfl ?_
  refine gn_iadd iL_law_784 ?_
  refine go_sld iL_law_785 rfl (by omega) (by omega) ?_
  refine go_aloadn_0 iL_law_786 rfl ?_
  refine go_iloadn_3 iL_law_787 ?_
  refine go_iconst (v := nI 2) iL_law_788 rfl ?_
  refine gn_iadd iL_law_789 ?_
  refine go_sld iL_law_790 rfl (by omega) (by omega) ?_
  refine go_aloadn_0 iL_law_791 rfl ?_
  refine go_iloadn_3 iL_law_792 ?_
  refine go_iconst (v := nI 3) iL_law_793 rfl ?_
  refine gn_iadd iL_law_794 ?_
  refine go_sld iL_law_795 rfl (by omega) (by omega) ?_
  refine gc_V1 iL_law_796 rfl (by decide) (sk_43 _) rfl (Nat.le_of_ble_eq_true rfl) (Nat.le_of_ble_eq_true rfl) (by decide) sM ?_
  refine go_ic_eq iL_law_799 (fun _ => ?_) (fun c => absurd rfl c)
  exact kq _ _ _ hR2
theorem lc_middle (hi : i + 6 ≤ S.1) (hL : S.1 ≤ 3072) (hR : Rel n mI mL) (kq : ∀ n mI mL, Rel n mI mL → Go S 30 tL_law ((am_sh n, mI, mL, am_mR n), 1222, [.retAddr 0, .ref 0, .ref 43, .int (nI i)], []) Q) : Go S 30 tL_law ((am_sh n, mI, mL, am_mR n), 804, [.retAddr 0, .ref 0, .ref 43, .int (nI i)], []) Q := by
  obtain ⟨v, n1, mI1, mL1, mI2, mL2, sT, sM, hR2, h1, h2⟩ := pr_middle (S := S) (S.2 (i + 1)) (S.2 (i + 2)) hR
  obtain ⟨z, hz⟩ := sp_int rfl sT
  subst hz
  refine go_aloadn_1 iL_law_804 rfl ?_
  refine go_aloadn_0 iL_law_805 rfl ?_
  refine go_iloadn_3 iL_law_806 ?_
  refine go_iconst (v := nI 1) iL_law_807 rfl ?_
  refine gn_iadd iL_law_808 ?_
  refine go_sld iL_law_809 rfl (by omega) (by omega) ?_
  refine go_aloadn_0 iL_law_810 rfl ?_
  refine go_iloadn_3 iL_law_811 ?_
  refine go_iconst (v := nI 2) iL_law_812 rfl ?_
  refine gn_iadd iL_law_813 ?_
  refine go_sld iL_law_814 rfl (by omega) (by omega) ?_
  refine gc_V1 iL_law_815 rfl (by decide) (sk_0 _) rfl (Nat.le_of_ble_eq_true rfl) (Nat.le_of_ble_eq_true rfl) (by decide) sT ?_
  refine go_aloadn_2 iL_law_818 rfl ?_
  refine go_aloadn_0 iL_law_819 rfl ?_
  refine go_iloadn_3 iL_law_820 ?_
  refine go_iconst (v := nI 1) iL_law_821 rfl ?_
  refine gn_iadd iL_law_822 ?_
  refine go_sld iL_law_823 rfl (by omega) (by omega) ?_
  refine go_aloadn_0 iL_law_824 rfl ?_
  refine go_iloadn_3 iL_law_825 ?_
  refine go_iconst (v := nI 2) iL_law_826 rfl ?_
  refine gn_iadd iL_law_827 ?_
  refine go_sld iL_law_828 rfl (by omega) (by omega) ?_
  refine gc_V1 iL_law_829 rfl (by decide) (sk_43 _) rfl (Nat.le_of_ble_eq_true rfl) (Nat.le_of_ble_eq_true rfl) (by decide) sM ?_
  refine go_ic_eq iL_law_832 (fun _ => ?_) (fun c => absurd rfl c)
  exact kq _ _ _ hR2
theorem lc_bestRow (hi : i + 6 ≤ S.1) (hL : S.1 ≤ 3072) (hR : Rel n mI mL) (kq : ∀ n mI mL, Rel n mI mL → Go S 30 tL_law ((am_sh n, mI, mL, am_mR n), 1222, [.retAddr 0, .ref 0, .ref 43, .int (nI i)], []) Q) : Go S 30 tL_law ((am_sh n, mI, mL, am_mR n), 837, [.retAddr 0, .ref 0, .ref 43, .int (nI i)], []) Q := by
  obtain ⟨v, n1, mI1, mL1, mI2, mL2, sT, sM, hR2, h1, h2⟩ := pr_bestRow (S := S) (S.2 (i + 1)) (S.2 (i + 2)) hR
  obtain ⟨z, hz⟩ := sp_int rfl sT
  subst hz
  refine go_aloadn_1 iL_law_837 rfl ?_
  refine go_aloadn_0 iL_law_838 rfl ?_
  refine go_iloadn_3 iL_law_839 ?_
  refine go_iconst (v := nI 1) iL_law_840 rfl ?_
  refine gn_iadd iL_law_841 ?_
  refine go_sld iL_law_842 rfl (by omega) (by omega) ?_
  refine go_aloadn_0 iL_law_843 rfl ?_
  refine go_iloadn_3 iL_law_844 ?_
  refine go_iconst (v := nI 2) iL_law_845 rfl ?_
  refine gn_iadd iL_law_846 ?_
  refine go_sld iL_law_847 rfl (by omega) (by omega) ?_
  refine gc_V1 iL_law_848 rfl (by decide) (sk_0 _) rfl (Nat.le_of_ble_eq_true rfl) (Nat.le_of_ble_eq_true rfl) (by decide) sT ?_
  refine go_aloadn_2 iL_law_851 rfl ?_
  refine go_aloadn_0 iL_law_852 rfl ?_
  refine go_iloadn_3 iL_law_853 ?_
  refine go_iconst (v := nI 1) iL_law_854 rfl ?_
  refine gn_iadd iL_law_855 ?_
  refine go_sld iL_law_856 rfl (by omega) (by omega) ?_
  refine go_aloadn_0 iL_law_857 rfl ?_
  refine go_iloadn_3 iL_law_858 ?_
  refine go_iconst (v := nI 2) iL_law_859 rfl ?_
  refine gn_iadd iL_law_860 ?_
  refine go_sld iL_law_861 rfl (by omega) (by omega) ?_
  refine gc_V1 iL_law_862 rfl (by decide) (sk_43 _) rfl (Nat.le_of_ble_eq_true rfl) (Nat.le_of_ble_eq_true rfl) (by decide) sM ?_
  refine go_ic_eq iL_law_865 (fun _ => ?_) (fun c => absurd rfl c)
  exact kq _ _ _ hR2
theorem lc_bestChoice (hi : i + 6 ≤ S.1) (hL : S.1 ≤ 3072) (hR : Rel n mI mL) (kq : ∀ n mI mL, Rel n mI mL → Go S 30 tL_law ((am_sh n, mI, mL, am_mR n), 1222, [.retAddr 0, .ref 0, .ref 43, .int (nI i)], []) Q) : Go S 30 tL_law ((am_sh n, mI, mL, am_mR n), 870, [.retAddr 0, .ref 0, .ref 43, .int (nI i)], []) Q := by
  obtain ⟨v, n1, mI1, mL1, mI2, mL2, sT, sM, hR2, h1, h2⟩ := pr_bestChoice (S := S)  hR
  obtain ⟨z, hz⟩ := sp_int rfl sT
  subst hz
  refine go_aloadn_1 iL_law_870 rfl ?_
  refine gc_V1 iL_law_871 rfl (by decide) (sk_0 _) rfl (Nat.le_of_ble_eq_true rfl) (Nat.le_of_ble_eq_true rfl) (by decide) sT ?_
  refine go_aloadn_2 iL_law_874 rfl ?_
  refine gc_V1 iL_law_875 rfl (by decide) (sk_43 _) rfl (Nat.le_of_ble_eq_true rfl) (Nat.le_of_ble_eq_true rfl) (by decide) sM ?_
  refine go_ic_eq iL_law_878 (fun _ => ?_) (fun c => absurd rfl c)
  exact kq _ _ _ hR2
theorem lc_choice (hi : i + 6 ≤ S.1) (hL : S.1 ≤ 3072) (hR : Rel n mI mL) (kq : ∀ n mI mL, Rel n mI mL → Go S 30 tL_law ((am_sh n, mI, mL, am_mR n), 1222, [.retAddr 0, .ref 0, .ref 43, .int (nI i)], []) Q) : Go S 30 tL_law ((am_sh n, mI, mL, am_mR n), 883, [.retAddr 0, .ref 0, .ref 43, .int (nI i)], []) Q := by
  obtain ⟨v, n1, mI1, mL1, mI2, mL2, sT, sM, hR2, h1, h2⟩ := pr_choice (S := S) (S.2 (i + 1)) hR
  obtain ⟨z, hz⟩ := sp_int rfl sT
  subst hz
  refine go_aloadn_1 iL_law_883 rfl ?_
  refine go_aloadn_0 iL_law_884 rfl ?_
  refine go_iloadn_3 iL_law_885 ?_
  refine go_iconst (v := nI 1) iL_law_886 rfl ?_
  refine gn_iadd iL_law_887 ?_
  refine go_sld iL_law_888 rfl (by omega) (by omega) ?_
  refine gc_V1 iL_law_889 rfl (by decide) (sk_0 _) rfl (Nat.le_of_ble_eq_true rfl) (Nat.le_of_ble_eq_true rfl) (by decide) sT ?_
  refine go_aloadn_2 iL_law_892 rfl ?_
  refine go_aloadn_0 iL_law_893 rfl ?_
  refine go_iloadn_3 iL_law_894 ?_
  refine go_iconst (v := nI 1) iL_law_895 rfl ?_
  refine gn_iadd iL_law_896 ?_
  refine go_sld iL_law_897 rfl (by omega) (by omega) ?_
  refine gc_V1 iL_law_898 rfl (by decide) (sk_43 _) rfl (Nat.le_of_ble_eq_true rfl) (Nat.le_of_ble_eq_true rfl) (by decide) sM ?_
  refine go_ic_eq iL_law_901 (fun _ => ?_) (fun c => absurd rfl c)
  exact kq _ _ _ hR2
theorem lc_paradoxes (hi : i + 6 ≤ S.1) (hL : S.1 ≤ 3072) (hR : Rel n mI mL) (kq : ∀ n mI mL, Rel n mI mL → Go S 30 tL_law ((am_sh n, mI, mL, am_mR n), 1222, [.retAddr 0, .ref 0, .ref 43, .int (nI i)], []) Q) : Go S 30 tL_law ((am_sh n, mI, mL, am_mR n), 906, [.retAddr 0, .ref 0, .ref 43, .int (nI i)], []) Q := by
  obtain ⟨v, n1, mI1, mL1, mI2, mL2, sT, sM, hR2, h1, h2⟩ := pr_paradoxes (S := S)  hR
  obtain ⟨z, hz⟩ := sp_int rfl sT
  subst hz
  refine go_aloadn_1 iL_law_906 rfl ?_
  refine gc_V1 iL_law_907 rfl (by decide) (sk_0 _) rfl (Nat.le_of_ble_eq_true rfl) (Nat.le_of_ble_eq_true rfl) (by decide) sT ?_
  refine go_aloadn_2 iL_law_910 rfl ?_
  refine gc_V1 iL_law_911 rfl (by decide) (sk_43 _) rfl (Nat.le_of_ble_eq_true rfl) (Nat.le_of_ble_eq_true rfl) (by decide) sM ?_
  refine go_ic_eq iL_law_914 (fun _ => ?_) (fun c => absurd rfl c)
  exact kq _ _ _ hR2
theorem lc_after (hi : i + 6 ≤ S.1) (hL : S.1 ≤ 3072) (hR : Rel n mI mL) (kq : ∀ n mI mL, Rel n mI mL → Go S 30 tL_law ((am_sh n, mI, mL, am_mR n), 1222, [.retAddr 0, .ref 0, .ref 43, .int (nI i)], []) Q) : Go S 30 tL_law ((am_sh n, mI, mL, am_mR n), 919, [.retAddr 0, .ref 0, .ref 43, .int (nI i)], []) Q := by
  obtain ⟨v, n1, mI1, mL1, mI2, mL2, sT, sM, hR2, h1, h2⟩ := pr_after (S := S) (S.2 (i + 1)) (S.2 (i + 2)) (S.2 (i + 3)) (S.2 (i + 4)) hR
  obtain ⟨z, hz⟩ := sp_int rfl sT
  subst hz
  refine go_aloadn_1 iL_law_919 rfl ?_
  refine go_aloadn_0 iL_law_920 rfl ?_
  refine go_iloadn_3 iL_law_921 ?_
  refine go_iconst (v := nI 1) iL_law_922 rfl ?_
  refine gn_iadd iL_law_923 ?_
  refine go_sld iL_law_924 rfl (by omega) (by omega) ?_
  refine go_aloadn_0 iL_law_925 rfl ?_
  refine go_iloadn_3 iL_law_926 ?_
  refine go_iconst (v := nI 2) iL_law_927 rfl ?_
  refine gn_iadd iL_law_928 ?_
  refine go_sld iL_law_929 rfl (by omega) (by omega) ?_
  refine go_aloadn_0 iL_law_930 rfl ?_
  refine go_iloadn_3 iL_law_931 ?_
  refine go_iconst (v := nI 3) iL_law_932 rfl ?_
  refine gn_iadd iL_law_933 ?_
  refine go_sld iL_law_934 rfl (by omega) (by omega) ?_
  refine go_aloadn_0 iL_law_935 rfl ?_
  refine go_iloadn_3 iL_law_936 ?_
  refine go_iconst (v := nI 4) iL_law_937 rfl ?_
  refine gn_iadd iL_law_938 ?_
  refine go_sld iL_law_939 rfl (by omega) (by omega) ?_
  refine gc_V1 iL_law_940 rfl (by decide) (sk_0 _) rfl (Nat.le_of_ble_eq_true rfl) (Nat.le_of_ble_eq_true rfl) (by decide) sT ?_
  refine go_aloadn_2 iL_law_943 rfl ?_
  refine go_aloadn_0 iL_law_944 rfl ?_
  refine go_iloadn_3 iL_law_945 ?_
  refine go_iconst (v := nI 1) iL_law_946 rfl ?_
  refine gn_iadd iL_law_947 ?_
  refine go_sld iL_law_948 rfl (by omega) (by omega) ?_
  refine go_aloadn_0 iL_law_949 rfl ?_
  refine go_iloadn_3 iL_law_950 ?_
  refine go_iconst (v := nI 2) iL_law_951 rfl ?_
  refine gn_iadd iL_law_952 ?_
  refine go_sld iL_law_953 rfl (by omega) (by omega) ?_
  refine go_aloadn_0 iL_law_954 rfl ?_
  refine go_iloadn_3 iL_law_955 ?_
  refine go_iconst (v := nI 3) iL_law_956 rfl ?_
  refine gn_iadd iL_law_957 ?_
  refine go_sld iL_law_958 rfl (by omega) (by omega) ?_
  refine go_aloadn_0 iL_law_959 rfl ?_
  refine go_iloadn_3 iL_law_960 ?_
  refine go_iconst (v := nI 4) iL_law_961 rfl ?_
  refine gn_iadd iL_law_962 ?_
  refine go_sld iL_law_963 rfl (by omega) (by omega) ?_
  refine gc_V1 iL_law_964 rfl (by decide) (sk_43 _) rfl (Nat.le_of_ble_eq_true rfl) (Nat.le_of_ble_eq_true rfl) (by decide) sM ?_
  refine go_ic_eq iL_law_967 (fun _ => ?_) (fun c => absurd rfl c)
  exact kq _ _ _ hR2
theorem lc_meanAfter (hi : i + 6 ≤ S.1) (hL : S.1 ≤ 3072) (hR : Rel n mI mL) (kq : ∀ n mI mL, Rel n mI mL → Go S 30 tL_law ((am_sh n, mI, mL, am_mR n), 1222, [.retAddr 0, .ref 0, .ref 43, .int (nI i)], []) Q) : Go S 30 tL_law ((am_sh n, mI, mL, am_mR n), 972, [.retAddr 0, .ref 0, .ref 43, .int (nI i)], []) Q := by
  obtain ⟨v, n1, mI1, mL1, mI2, mL2, sT, sM, hR2, h1, h2⟩ := pr_meanAfter (S := S) (S.2 (i + 1)) (S.2 (i + 2)) (S.2 (i + 3)) hR
  obtain ⟨z, hz⟩ := sp_int rfl sT
  subst hz
  refine go_aloadn_1 iL_law_972 rfl ?_
  refine go_aloadn_0 iL_law_973 rfl ?_
  refine go_iloadn_3 iL_law_974 ?_
  refine go_iconst (v := nI 1) iL_law_975 rfl ?_
  refine gn_iadd iL_law_976 ?_
  refine go_sld iL_law_977 rfl (by omega) (by omega) ?_
  refine go_aloadn_0 iL_law_978 rfl ?_
  refine go_iloadn_3 iL_law_979 ?_
  refine go_iconst (v := nI 2) iL_law_980 rfl ?_
  refine gn_iadd iL_law_981 ?_
  refine go_sld iL_law_982 rfl (by omega) (by omega) ?_
  refine go_aloadn_0 iL_law_983 rfl ?_
  refine go_iloadn_3 iL_law_984 ?_
  refine go_iconst (v := nI 3) iL_law_985 rfl ?_
  refine gn_iadd iL_law_986 ?_
  refine go_sld iL_law_987 rfl (by omega) (by omega) ?_
  refine gc_V1 iL_law_988 rfl (by decide) (sk_0 _) rfl (Nat.le_of_ble_eq_true rfl) (Nat.le_of_ble_eq_true rfl) (by decide) sT ?_
  refine go_aloadn_2 iL_law_991 rfl ?_
  refine go_aloadn_0 iL_law_992 rfl ?_
  refine go_iloadn_3 iL_law_993 ?_
  refine go_iconst (v := nI 1) iL_law_994 rfl ?_
  refine gn_iadd iL_law_995 ?_
  refine go_sld iL_law_996 rfl (by omega) (by omega) ?_
  refine go_aloadn_0 iL_law_997 rfl ?_
  refine go_iloadn_3 iL_law_998 ?_
  refine go_iconst (v := nI 2) iL_law_999 rfl ?_
  refine gn_iadd iL_law_1000 ?_
  refine go_sld iL_law_1001 rfl (by omega) (by omega) ?_
  refine go_aloadn_0 iL_law_1002 rfl ?_
  refine go_iloadn_3 iL_law_1003 ?_
  refine go_iconst (v := nI 3) iL_law_1004 rfl ?_
  refine gn_iadd iL_law_1005 ?_
  refine go_sld iL_law_1006 rfl (by omega) (by omega) ?_
  refine gc_V1 iL_law_1007 rfl (by decide) (sk_43 _) rfl (Nat.le_of_ble_eq_true rfl) (Nat.le_of_ble_eq_true rfl) (by decide) sM ?_
  refine go_ic_eq iL_law_1010 (fun _ => ?_) (fun c => absurd rfl c)
  exact kq _ _ _ hR2
theorem lc_ends (hi : i + 6 ≤ S.1) (hL : S.1 ≤ 3072) (hR : Rel n mI mL) (kq : ∀ n mI mL, Rel n mI mL → Go S 30 tL_law ((am_sh n, mI, mL, am_mR n), 1222, [.retAddr 0, .ref 0, .ref 43, .int (nI i)], []) Q) : Go S 30 tL_law ((am_sh n, mI, mL, am_mR n), 1015, [.retAddr 0, .ref 0, .ref 43, .int (nI i)], []) Q := by
  obtain ⟨v, n1, mI1, mL1, mI2, mL2, sT, sM, hR2, h1, h2⟩ := pr_ends (S := S) (S.2 (i + 1)) (S.2 (i + 2)) (S.2 (i + 3)) (S.2 (i + 4)) hR
  obtain ⟨z, hz⟩ := sp_int rfl sT
  subst hz
  refine go_aloadn_1 iL_law_1015 rfl ?_
  refine go_aloadn_0 iL_law_1016 rfl ?_
  refine go_iloadn_3 iL_law_1017 ?_
  refine go_iconst (v := nI 1) iL_law_1018 rfl ?_
  refine gn_iadd iL_law_1019 ?_
  refine go_sld iL_law_1020 rfl (by omega) (by omega) ?_
  refine go_aloadn_0 iL_law_1021 rfl ?_
  refine go_iloadn_3 iL_law_1022 ?_
  refine go_iconst (v := nI 2) iL_law_1023 rfl ?_
  refine gn_iadd iL_law_1024 ?_
  refine go_sld iL_law_1025 rfl (by omega) (by omega) ?_
  refine go_aloadn_0 iL_law_1026 rfl ?_
  refine go_iloadn_3 iL_law_1027 ?_
  refine go_iconst (v := nI 3) iL_law_1028 rfl ?_
  refine gn_iadd iL_law_1029 ?_
  refine go_sld iL_law_1030 rfl (by omega) (by omega) ?_
  refine go_aloadn_0 iL_law_1031 rfl ?_
  refine go_iloadn_3 iL_law_1032 ?_
  refine go_iconst (v := nI 4) iL_law_1033 rfl ?_
  refine gn_iadd iL_law_1034 ?_
  refine go_sld iL_law_1035 rfl (by omega) (by omega) ?_
  refine gc_V1 iL_law_1036 rfl (by decide) (sk_0 _) rfl (Nat.le_of_ble_eq_true rfl) (Nat.le_of_ble_eq_true rfl) (by decide) sT ?_
  refine go_aloadn_2 iL_law_1039 rfl ?_
  refine go_aloadn_0 iL_law_1040 rfl ?_
  refine go_iloadn_3 iL_law_1041 ?_
  refine go_iconst (v := nI 1) iL_law_1042 rfl ?_
  refine gn_iadd iL_law_1043 ?_
  refine go_sld iL_law_1044 rfl (by omega) (by omega) ?_
  refine go_aloadn_0 iL_law_1045 rfl ?_
  refine go_iloadn_3 iL_law_1046 ?_
  refine go_iconst (v := nI 2) iL_law_1047 rfl ?_
  refine gn_iadd iL_law_1048 ?_
  refine go_sld iL_law_1049 rfl (by omega) (by omega) ?_
  refine go_aloadn_0 iL_law_1050 rfl ?_
  refine go_iloadn_3 iL_law_1051 ?_
  refine go_iconst (v := nI 3) iL_law_1052 rfl ?_
  refine gn_iadd iL_law_1053 ?_
  refine go_sld iL_law_1054 rfl (by omega) (by omega) ?_
  refine go_aloadn_0 iL_law_1055 rfl ?_
  refine go_iloadn_3 iL_law_1056 ?_
  refine go_iconst (v := nI 4) iL_law_1057 rfl ?_
  refine gn_iadd iL_law_1058 ?_
  refine go_sld iL_law_1059 rfl (by omega) (by omega) ?_
  refine gc_V1 iL_law_1060 rfl (by decide) (sk_43 _) rfl (Nat.le_of_ble_eq_true rfl) (Nat.le_of_ble_eq_true rfl) (by decide) sM ?_
  refine go_ic_eq iL_law_1063 (fun _ => ?_) (fun c => absurd rfl c)
  exact kq _ _ _ hR2
theorem lc_run (hi : i + 6 ≤ S.1) (hL : S.1 ≤ 3072) (hR : Rel n mI mL) (kq : ∀ n mI mL, Rel n mI mL → Go S 30 tL_law ((am_sh n, mI, mL, am_mR n), 1222, [.retAddr 0, .ref 0, .ref 43, .int (nI i)], []) Q) : Go S 30 tL_law ((am_sh n, mI, mL, am_mR n), 1068, [.retAddr 0, .ref 0, .ref 43, .int (nI i)], []) Q := by
  obtain ⟨v, n1, mI1, mL1, mI2, mL2, sT, sM, hR2, h1, h2⟩ := pr_run (S := S) (S.2 (i + 1)) (S.2 (i + 2)) (S.2 (i + 3)) (S.2 (i + 4)) hR
  obtain ⟨z, hz⟩ := sp_int rfl sT
  subst hz
  refine go_aloadn_1 iL_law_1068 rfl ?_
  refine go_aloadn_0 iL_law_1069 rfl ?_
  refine go_iloadn_3 iL_law_1070 ?_
  refine go_iconst (v := nI 1) iL_law_1071 rfl ?_
  refine gn_iadd iL_law_1072 ?_
  refine go_sld iL_law_1073 rfl (by omega) (by omega) ?_
  refine go_aloadn_0 iL_law_1074 rfl ?_
  refine go_iloadn_3 iL_law_1075 ?_
  refine go_iconst (v := nI 2) iL_law_1076 rfl ?_
  refine gn_iadd iL_law_1077 ?_
  refine go_sld iL_law_1078 rfl (by omega) (by omega) ?_
  refine go_aloadn_0 iL_law_1079 rfl ?_
  refine go_iloadn_3 iL_law_1080 ?_
  refine go_iconst (v := nI 3) iL_law_1081 rfl ?_
  refine gn_iadd iL_law_1082 ?_
  refine go_sld iL_law_1083 rfl (by omega) (by omega) ?_
  refine go_aloadn_0 iL_law_1084 rfl ?_
  refine go_iloadn_3 iL_law_1085 ?_
  refine go_iconst (v := nI 4) iL_law_1086 rfl ?_
  refine gn_iadd iL_law_1087 ?_
  refine go_sld iL_law_1088 rfl (by omega) (by omega) ?_
  refine gc_V1 iL_law_1089 rfl (by decide) (sk_0 _) rfl (Nat.le_of_ble_eq_true rfl) (Nat.le_of_ble_eq_true rfl) (by decide) sT ?_
  refine go_aloadn_2 iL_law_1092 rfl ?_
  refine go_aloadn_0 iL_law_1093 rfl ?_
  refine go_iloadn_3 iL_law_1094 ?_
  refine go_iconst (v := nI 1) iL_law_1095 rfl ?_
  refine gn_iadd iL_law_1096 ?_
  refine go_sld iL_law_1097 rfl (by omega) (by omega) ?_
  refine go_aloadn_0 iL_law_1098 rfl ?_
  refine go_iloadn_3 iL_law_1099 ?_
  refine go_iconst (v := nI 2) iL_law_1100 rfl ?_
  refine gn_iadd iL_law_1101 ?_
  refine go_sld iL_law_1102 rfl (by omega) (by omega) ?_
  refine go_aloadn_0 iL_law_1103 rfl ?_
  refine go_iloadn_3 iL_law_1104 ?_
  refine go_iconst (v := nI 3) iL_law_1105 rfl ?_
  refine gn_iadd iL_law_1106 ?_
  refine go_sld iL_law_1107 rfl (by omega) (by omega) ?_
  refine go_aloadn_0 iL_law_1108 rfl ?_
  refine go_iloadn_3 iL_law_1109 ?_
  refine go_iconst (v := nI 4) iL_law_1110 rfl ?_
  refine gn_iadd iL_law_1111 ?_
  refine go_sld iL_law_1112 rfl (by omega) (by omega) ?_
  refine gc_V1 iL_law_1113 rfl (by decide) (sk_43 _) rfl (Nat.le_of_ble_eq_true rfl) (Nat.le_of_ble_eq_true rfl) (by decide) sM ?_
  refine go_ic_eq iL_law_1116 (fun _ => ?_) (fun c => absurd rfl c)
  exact kq _ _ _ hR2
theorem lc_upper (hi : i + 6 ≤ S.1) (hL : S.1 ≤ 3072) (hR : Rel n mI mL) (kq : ∀ n mI mL, Rel n mI mL → Go S 30 tL_law ((am_sh n, mI, mL, am_mR n), 1222, [.retAddr 0, .ref 0, .ref 43, .int (nI i)], []) Q) : Go S 30 tL_law ((am_sh n, mI, mL, am_mR n), 1121, [.retAddr 0, .ref 0, .ref 43, .int (nI i)], []) Q := by
  obtain ⟨v, n1, mI1, mL1, mI2, mL2, sT, sM, hR2, h1, h2⟩ := pr_upper (S := S)  hR
  obtain ⟨z, hz⟩ := sp_long rfl sT
  subst hz
  refine go_aloadn_1 iL_law_1121 rfl ?_
  refine gc_V1 iL_law_1122 rfl (by decide) (sk_0 _) rfl (Nat.le_of_ble_eq_true rfl) (Nat.le_of_ble_eq_true rfl) (by decide) sT ?_
  refine go_aloadn_2 iL_law_1125 rfl ?_
  refine gc_V1 iL_law_1126 rfl (by decide) (sk_43 _) rfl (Nat.le_of_ble_eq_true rfl) (Nat.le_of_ble_eq_true rfl) (by decide) sM ?_
  refine go_lcmp iL_law_1129 ?_
  refine go_if_eq iL_law_1130 (fun _ => ?_) (fun c => absurd ((lgc_eq _ _).mpr rfl) c)
  exact kq _ _ _ hR2
theorem lc_lower (hi : i + 6 ≤ S.1) (hL : S.1 ≤ 3072) (hR : Rel n mI mL) (kq : ∀ n mI mL, Rel n mI mL → Go S 30 tL_law ((am_sh n, mI, mL, am_mR n), 1222, [.retAddr 0, .ref 0, .ref 43, .int (nI i)], []) Q) : Go S 30 tL_law ((am_sh n, mI, mL, am_mR n), 1135, [.retAddr 0, .ref 0, .ref 43, .int (nI i)], []) Q := by
  obtain ⟨v, n1, mI1, mL1, mI2, mL2, sT, sM, hR2, h1, h2⟩ := pr_lower (S := S)  hR
  obtain ⟨z, hz⟩ := sp_long rfl sT
  subst hz
  refine go_aloadn_1 iL_law_1135 rfl ?_
  refine gc_V1 iL_law_1136 rfl (by decide) (sk_0 _) rfl (Nat.le_of_ble_eq_true rfl) (Nat.le_of_ble_eq_true rfl) (by decide) sT ?_
  refine go_aloadn_2 iL_law_1139 rfl ?_
  refine gc_V1 iL_law_1140 rfl (by decide) (sk_43 _) rfl (Nat.le_of_ble_eq_true rfl) (Nat.le_of_ble_eq_true rfl) (by decide) sM ?_
  refine go_lcmp iL_law_1143 ?_
  refine go_if_eq iL_law_1144 (fun _ => ?_) (fun c => absurd ((lgc_eq _ _).mpr rfl) c)
  exact kq _ _ _ hR2
theorem lc_count (hi : i + 6 ≤ S.1) (hL : S.1 ≤ 3072) (hR : Rel n mI mL) (kq : ∀ n mI mL, Rel n mI mL → Go S 30 tL_law ((am_sh n, mI, mL, am_mR n), 1222, [.retAddr 0, .ref 0, .ref 43, .int (nI i)], []) Q) : Go S 30 tL_law ((am_sh n, mI, mL, am_mR n), 1149, [.retAddr 0, .ref 0, .ref 43, .int (nI i)], []) Q := by
  obtain ⟨v, n1, mI1, mL1, mI2, mL2, sT, sM, hR2, h1, h2⟩ := pr_count (S := S) (S.2 (i + 1)) hR
  obtain ⟨z, hz⟩ := sp_int rfl sT
  subst hz
  refine go_aloadn_1 iL_law_1149 rfl ?_
  refine go_aloadn_0 iL_law_1150 rfl ?_
  refine go_iloadn_3 iL_law_1151 ?_
  refine go_iconst (v := nI 1) iL_law_1152 rfl ?_
  refine gn_iadd iL_law_1153 ?_
  refine go_sld iL_law_1154 rfl (by omega) (by omega) ?_
  refine gc_V1 iL_law_1155 rfl (by decide) (sk_0 _) rfl (Nat.le_of_ble_eq_true rfl) (Nat.le_of_ble_eq_true rfl) (by decide) sT ?_
  refine go_aloadn_2 iL_law_1158 rfl ?_
  refine go_aloadn_0 iL_law_1159 rfl ?_
  refine go_iloadn_3 iL_law_1160 ?_
  refine go_iconst (v := nI 1) iL_law_1161 rfl ?_
  refine gn_iadd iL_law_1162 ?_
  refine go_sld iL_law_1163 rfl (by omega) (by omega) ?_
  refine gc_V1 iL_law_1164 rfl (by decide) (sk_43 _) rfl (Nat.le_of_ble_eq_true rfl) (Nat.le_of_ble_eq_true rfl) (by decide) sM ?_
  refine go_ic_eq iL_law_1167 (fun _ => ?_) (fun c => absurd rfl c)
  exact kq _ _ _ hR2
theorem lc_finding (hi : i + 6 ≤ S.1) (hL : S.1 ≤ 3072) (hR : Rel n mI mL) (kq : ∀ n mI mL, Rel n mI mL → Go S 30 tL_law ((am_sh n, mI, mL, am_mR n), 1222, [.retAddr 0, .ref 0, .ref 43, .int (nI i)], []) Q) : Go S 30 tL_law ((am_sh n, mI, mL, am_mR n), 1172, [.retAddr 0, .ref 0, .ref 43, .int (nI i)], []) Q := by
  obtain ⟨v, n1, mI1, mL1, mI2, mL2, sT, sM, hR2, h1, h2⟩ := pr_finding (S := S)  hR
  obtain ⟨z, hz⟩ := sp_int rfl sT
  subst hz
  refine go_aloadn_1 iL_law_1172 rfl ?_
  refine gc_V1 iL_law_1173 rfl (by decide) (sk_0 _) rfl (Nat.le_of_ble_eq_true rfl) (Nat.le_of_ble_eq_true rfl) (by decide) sT ?_
  refine go_aloadn_2 iL_law_1176 rfl ?_
  refine gc_V1 iL_law_1177 rfl (by decide) (sk_43 _) rfl (Nat.le_of_ble_eq_true rfl) (Nat.le_of_ble_eq_true rfl) (by decide) sM ?_
  refine go_ic_eq iL_law_1180 (fun _ => ?_) (fun c => absurd rfl c)
  exact kq _ _ _ hR2
theorem lc_findings (hi : i + 6 ≤ S.1) (hL : S.1 ≤ 3072) (hR : Rel n mI mL) (kq : ∀ n mI mL, Rel n mI mL → Go S 30 tL_law ((am_sh n, mI, mL, am_mR n), 1222, [.retAddr 0, .ref 0, .ref 43, .int (nI i)], []) Q) : Go S 30 tL_law ((am_sh n, mI, mL, am_mR n), 1185, [.retAddr 0, .ref 0, .ref 43, .int (nI i)], []) Q := by
  obtain ⟨v, n1, mI1, mL1, mI2, mL2, sT, sM, hR2, h1, h2⟩ := pr_findings (S := S) (S.2 (i + 1)) hR
  obtain ⟨z, hz⟩ := sp_int rfl sT
  subst hz
  refine go_aloadn_1 iL_law_1185 rfl ?_
  refine go_aloadn_0 iL_law_1186 rfl ?_
  refine go_iloadn_3 iL_law_1187 ?_
  refine go_iconst (v := nI 1) iL_law_1188 rfl ?_
  refine gn_iadd iL_law_1189 ?_
  refine go_sld iL_law_1190 rfl (by omega) (by omega) ?_
  refine gc_V1 iL_law_1191 rfl (by decide) (sk_0 _) rfl (Nat.le_of_ble_eq_true rfl) (Nat.le_of_ble_eq_true rfl) (by decide) sT ?_
  refine go_aloadn_2 iL_law_1194 rfl ?_
  refine go_aloadn_0 iL_law_1195 rfl ?_
  refine go_iloadn_3 iL_law_1196 ?_
  refine go_iconst (v := nI 1) iL_law_1197 rfl ?_
  refine gn_iadd iL_law_1198 ?_
  refine go_sld iL_law_1199 rfl (by omega) (by omega) ?_
  refine gc_V1 iL_law_1200 rfl (by decide) (sk_43 _) rfl (Nat.le_of_ble_eq_true rfl) (Nat.le_of_ble_eq_true rfl) (by decide) sM ?_
  refine go_ic_eq iL_law_1203 (fun _ => ?_) (fun c => absurd rfl c)
  exact kq _ _ _ hR2
theorem lc_digest (hi : i + 6 ≤ S.1) (hL : S.1 ≤ 3072) (hR : Rel n mI mL) (kq : ∀ n mI mL, Rel n mI mL → Go S 30 tL_law ((am_sh n, mI, mL, am_mR n), 1222, [.retAddr 0, .ref 0, .ref 43, .int (nI i)], []) Q) : Go S 30 tL_law ((am_sh n, mI, mL, am_mR n), 1208, [.retAddr 0, .ref 0, .ref 43, .int (nI i)], []) Q := by
  obtain ⟨v, n1, mI1, mL1, mI2, mL2, sT, sM, hR2, h1, h2⟩ := pr_digest (S := S)  hR
  obtain ⟨z, hz⟩ := sp_long rfl sT
  subst hz
  refine go_aloadn_1 iL_law_1208 rfl ?_
  refine gc_V1 iL_law_1209 rfl (by decide) (sk_0 _) rfl (Nat.le_of_ble_eq_true rfl) (Nat.le_of_ble_eq_true rfl) (by decide) sT ?_
  refine go_aloadn_2 iL_law_1212 rfl ?_
  refine gc_V1 iL_law_1213 rfl (by decide) (sk_43 _) rfl (Nat.le_of_ble_eq_true rfl) (Nat.le_of_ble_eq_true rfl) (by decide) sM ?_
  refine go_lcmp iL_law_1216 ?_
  refine go_if_eq iL_law_1217 (fun _ => ?_) (fun c => absurd ((lgc_eq _ _).mpr rfl) c)
  exact kq _ _ _ hR2
theorem lo_law (hL : S.1 ≤ 3072) : ∀ l i n (mI : Nat → Nat → Int32) (mL : Nat → Nat → Int64), S.1 + 1 ≤ i + 6 * l → i ≤ 3072 → Rel n mI mL → Go S 30 tL_law ((am_sh n, mI, mL, am_mR n), 18, [.retAddr 0, .ref 0, .ref 43, .int (nI i)], []) (fun r => ∃ n mI mL, r = (some (.int 1), (am_sh n, mI, mL, am_mR n)) ∧ n ≤ 8)
  | 0, i, n, mI, mL, h1, h2, hR => by
    refine go_iloadn_3 iL_law_18 ?_
    refine go_aloadn_0 iL_law_19 rfl ?_
    refine go_slen iL_law_20 ?_
    refine go_bipush (v := nI 6) iL_law_21 (by decide) ?_
    refine gk_isub iL_law_23 ?_
    refine gl_gt iL_law_24 (by omega) (by omega) (fun c => ?_) (fun c => ?_)
    · refine go_iconst (v := nI 1) iL_law_1228 rfl ?_
      refine go_zret iL_law_1229 rfl (Or.inr rfl) ?_
      exact ⟨n, mI, mL, rfl, hR.1⟩
    · omega
  | l + 1, i, n, mI, mL, h1, h2, hR => by
    refine go_iloadn_3 iL_law_18 ?_
    refine go_aloadn_0 iL_law_19 rfl ?_
    refine go_slen iL_law_20 ?_
    refine go_bipush (v := nI 6) iL_law_21 (by decide) ?_
    refine gk_isub iL_law_23 ?_
    refine gl_gt iL_law_24 (by omega) (by omega) (fun c => ?_) (fun c => ?_)
    · refine go_iconst (v := nI 1) iL_law_1228 rfl ?_
      refine go_zret iL_law_1229 rfl (Or.inr rfl) ?_
      exact ⟨n, mI, mL, rfl, hR.1⟩
    · have kq : ∀ n mI mL, Rel n mI mL → Go S 30 tL_law ((am_sh n, mI, mL, am_mR n), 1222, [.retAddr 0, .ref 0, .ref 43, .int (nI i)], []) (fun r => ∃ n mI mL, r = (some (.int 1), (am_sh n, mI, mL, am_mR n)) ∧ n ≤ 8) := by
        intro n mI mL hR
        refine go_iinc_3 iL_law_1222 (ni_inc _ 6) (by simp [Value.category, am_U]) ?_
        refine go_goto iL_law_1225 ?_
        exact lo_law hL l (i + 6) n mI mL (by omega) (by omega) hR
      refine go_aloadn_0 iL_law_27 rfl ?_
      refine go_iloadn_3 iL_law_28 ?_
      refine go_sld iL_law_29 rfl (by omega) (by omega) ?_
      refine go_bipush (v := nI 63) iL_law_30 (by decide) ?_
      refine go_iand iL_law_32 ?_
      generalize S.2 i &&& nI 63 = x
      rcases int_cases x 32 (by decide) with ⟨k, hk, rfl⟩ | hx
      · rcases (by omega : k = 0 ∨ k = 1 ∨ k = 2 ∨ k = 3 ∨ k = 4 ∨ k = 5 ∨ k = 6 ∨ k = 7 ∨ k = 8 ∨ k = 9 ∨ k = 10 ∨ k = 11 ∨ k = 12 ∨ k = 13 ∨ k = 14 ∨ k = 15 ∨ k = 16 ∨ k = 17 ∨ k = 18 ∨ k = 19 ∨ k = 20 ∨ k = 21 ∨ k = 22 ∨ k = 23 ∨ k = 24 ∨ k = 25 ∨ k = 26 ∨ k = 27 ∨ k = 28 ∨ k = 29 ∨ k = 30 ∨ k = 31 ∨ k = 32) with rfl | rfl | rfl | rfl | rfl | rfl | rfl | rfl | rfl | rfl | rfl | rfl | rfl | rfl | rfl | rfl | rfl | rfl | rfl | rfl | rfl | rfl | rfl | rfl | rfl | rfl | rfl | rfl | rfl | rfl | rfl | rfl | rfl
        · exact go_tswI (off := 147) (tgt := 180) iL_law_33 (by decide) (by decide) (by decide) (by decide) (lc_rest c hL hR kq)
        · exact go_tswI (off := 170) (tgt := 203) iL_law_33 (by decide) (by decide) (by decide) (by decide) (lc_play c hL hR kq)
        · exact go_tswI (off := 183) (tgt := 216) iL_law_33 (by decide) (by decide) (by decide) (by decide) (lc_rested c hL hR kq)
        · exact go_tswI (off := 226) (tgt := 259) iL_law_33 (by decide) (by decide) (by decide) (by decide) (lc_echo c hL hR kq)
        · exact go_tswI (off := 279) (tgt := 312) iL_law_33 (by decide) (by decide) (by decide) (by decide) (lc_flat c hL hR kq)
        · exact go_tswI (off := 302) (tgt := 335) iL_law_33 (by decide) (by decide) (by decide) (by decide) (lc_told c hL hR kq)
        · exact go_tswI (off := 335) (tgt := 368) iL_law_33 (by decide) (by decide) (by decide) (by decide) (lc_mark c hL hR kq)
        · exact go_tswI (off := 368) (tgt := 401) iL_law_33 (by decide) (by decide) (by decide) (by decide) (lc_odds c hL hR kq)
        · exact go_tswI (off := 401) (tgt := 434) iL_law_33 (by decide) (by decide) (by decide) (by decide) (lc_change c hL hR kq)
        · exact go_tswI (off := 444) (tgt := 477) iL_law_33 (by decide) (by decide) (by decide) (by decide) (lc_mean c hL hR kq)
        · exact go_tswI (off := 467) (tgt := 500) iL_law_33 (by decide) (by decide) (by decide) (by decide) (lc_row c hL hR kq)
        · exact go_tswI (off := 500) (tgt := 533) iL_law_33 (by decide) (by decide) (by decide) (by decide) (lc_lay c hL hR kq)
        · exact go_tswI (off := 543) (tgt := 576) iL_law_33 (by decide) (by decide) (by decide) (by decide) (lc_tear c hL hR kq)
        · exact go_tswI (off := 566) (tgt := 599) iL_law_33 (by decide) (by decide) (by decide) (by decide) (lc_copy c hL hR kq)
        · exact go_tswI (off := 629) (tgt := 662) iL_law_33 (by decide) (by decide) (by decide) (by decide) (lc_leads c hL hR kq)
        · exact go_tswI (off := 672) (tgt := 705) iL_law_33 (by decide) (by decide) (by decide) (by decide) (lc_share c hL hR kq)
        · exact go_tswI (off := 705) (tgt := 738) iL_law_33 (by decide) (by decide) (by decide) (by decide) (lc_gain c hL hR kq)
        · exact go_tswI (off := 728) (tgt := 761) iL_law_33 (by decide) (by decide) (by decide) (by decide) (lc_lot c hL hR kq)
        · exact go_tswI (off := 771) (tgt := 804) iL_law_33 (by decide) (by decide) (by decide) (by decide) (lc_middle c hL hR kq)
        · exact go_tswI (off := 804) (tgt := 837) iL_law_33 (by decide) (by decide) (by decide) (by decide) (lc_bestRow c hL hR kq)
        · exact go_tswI (off := 837) (tgt := 870) iL_law_33 (by decide) (by decide) (by decide) (by decide) (lc_bestChoice c hL hR kq)
        · exact go_tswI (off := 850) (tgt := 883) iL_law_33 (by decide) (by decide) (by decide) (by decide) (lc_choice c hL hR kq)
        · exact go_tswI (off := 873) (tgt := 906) iL_law_33 (by decide) (by decide) (by decide) (by decide) (lc_paradoxes c hL hR kq)
        · exact go_tswI (off := 886) (tgt := 919) iL_law_33 (by decide) (by decide) (by decide) (by decide) (lc_after c hL hR kq)
        · exact go_tswI (off := 939) (tgt := 972) iL_law_33 (by decide) (by decide) (by decide) (by decide) (lc_meanAfter c hL hR kq)
        · exact go_tswI (off := 982) (tgt := 1015) iL_law_33 (by decide) (by decide) (by decide) (by decide) (lc_ends c hL hR kq)
        · exact go_tswI (off := 1035) (tgt := 1068) iL_law_33 (by decide) (by decide) (by decide) (by decide) (lc_run c hL hR kq)
        · exact go_tswI (off := 1088) (tgt := 1121) iL_law_33 (by decide) (by decide) (by decide) (by decide) (lc_upper c hL hR kq)
        · exact go_tswI (off := 1102) (tgt := 1135) iL_law_33 (by decide) (by decide) (by decide) (by decide) (lc_lower c hL hR kq)
        · exact go_tswI (off := 1116) (tgt := 1149) iL_law_33 (by decide) (by decide) (by decide) (by decide) (lc_count c hL hR kq)
        · exact go_tswI (off := 1139) (tgt := 1172) iL_law_33 (by decide) (by decide) (by decide) (by decide) (lc_finding c hL hR kq)
        · exact go_tswI (off := 1152) (tgt := 1185) iL_law_33 (by decide) (by decide) (by decide) (by decide) (lc_findings c hL hR kq)
        · exact go_tswI (off := 1175) (tgt := 1208) iL_law_33 (by decide) (by decide) (by decide) (by decide) (lc_digest c hL hR kq)
      · exact go_tswO (tgt := 1222) iL_law_33 (by omega) (by decide) (kq _ _ _ hR)
end LAW
theorem shz : ∀ n, n < 9 → (am_sh n).length ≤ 835449 ∧ ((am_sh n).map (fun q => q.2)).sum ≤ 6595900 := by decide
theorem am_goal : am_Goal := by
  intro L xs hL
  have h : Go (L, xs) 30 tL_law (am_ent tL_law am_M0 [.retAddr 0]) (fun r => ∃ n mI mL, r = (some (.int 1), (am_sh n, mI, mL, am_mR n)) ∧ n ≤ 8) := by
    show Go _ _ tL_law (([], fun _ _ => 0, fun _ _ => 0, fun _ _ => none), 0, [.retAddr 0, am_U, am_U, am_U], []) _
    refine gw_O (k := 0) (sh2 := SHt 1) iL_law_0 rfl (by decide) rfl rfl ?_
    refine go_dup iL_law_3 rfl ?_
    refine gc_I0 iL_law_4 (by decide) rfl (by decide) rfl rfl (Nat.le_of_ble_eq_true rfl) (Nat.le_of_ble_eq_true rfl) (by decide) sp_T_init ?_
    refine go_astoren_1 iL_law_7 rfl (by simp [Value.category, am_U]) ?_
    refine gw_O (k := 43) (sh2 := SHt 44) iL_law_8 rfl (by decide) rfl rfl ?_
    refine go_dup iL_law_11 rfl ?_
    refine gc_I0 iL_law_12 (by decide) rfl (by decide) rfl rfl (Nat.le_of_ble_eq_true rfl) (Nat.le_of_ble_eq_true rfl) (by decide) sp_M_init ?_
    refine go_astoren_2 iL_law_15 rfl (by simp [Value.category, am_U]) ?_
    rw [ci_sh, ci_mR]
    refine go_iconst (v := nI 0) iL_law_16 rfl ?_
    refine go_istoren_3 iL_law_17 (by simp [Value.category, am_U]) ?_
    exact lo_law (S := (L, xs)) hL 600 0 0 _ _ (by dsimp only; omega) (by omega) ci_rel
  obtain ⟨f, r, h1, n, mI, mL, e, hn⟩ := h
  rw [e] at h1
  have hz := shz n (by omega)
  exact ⟨f, _, h1, hz.1, hz.2⟩
