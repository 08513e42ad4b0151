/-! THE LAW: its calls, its loop (written by wip/whole/g99f.py) -/
abbrev mL (nm : String) : MD := ((⟨RL, nm, "([I)Z"⟩ : MethodName), code, 4, ret)
def QL : Option VV → HP → Prop := fun v _ => v = some (vI 1)
abbrev LSi (i : Nat) : ZL := [(0, some (vR (some 6))), (1, some (vR (some 32))), (2, some (vR (some 109))), (3, some (vI (nI i)))]
theorem Inv.F {c : Nat} {h : HP} (I : Inv c h) : Fx h := I.elim (fun _ q => q.1.F)
theorem Inv.s {c : Nat} {h : HP} (I : Inv c h) : Inv (c + 1) h := I.elim (fun P q => ⟨P, q.1, q.2.1, q.2.2.s⟩)
theorem lgc (v : Int64) : lg_cmp v v = 0 := by
  unfold lg_cmp
  rw [if_neg (fun z : v > v => Int64.lt_irrefl z), if_pos rfl]
theorem le6 {N i : Nat} (hN : N ≤ 3072) (hi : i ≤ 3072) (z : ¬ (nI N - 6 < nI i)) : i + 6 ≤ N := by
  by_cases y : N < 6
  · have h1 : ∀ N, N < 6 → nI N - 6 < 0 := by decide
    exact absurd (Int32.lt_of_lt_of_le (h1 N y) (nI_pos' (by omega))) z
  · have e : nI N - 6 = nI (N - 6) := nI_subN (b := 6) (by omega)
    rw [e] at z
    by_cases w : N - 6 < i
    · exact absurd (nI_lt w (by omega)) z
    · omega
theorem law_0 (X : EX) {nm : String} {c i cells slots : Nat} {h : HP} (I : Inv c h) (hin : ∀ j, j < 6 → vp_in (nI i + nI j) (xN X)) (hc9 : c ≤ 1000) (hc : cells + 39 ≤ 400000) (hs : slots + 377 ≤ 4000000) (k : ∀ h2, Inv (c + 1) h2 → Ev X (mL nm) 40 400000 4000000 QL (cells + 39) (slots + 377) 1524 (LSi i) [] h2) : Ev X (mL nm) 40 400000 4000000 QL cells slots 216 (LSi i) [] h := by
  have F : Fx h := I.F
  refine e_aload_n aL_law_216 rfl ?_
  refine e_aload_n aL_law_217 rfl ?_
  refine e_iload_n aL_law_218 rfl ?_
  refine e_iconst (v := 1) aL_law_219 (by decide) ?_
  refine e_iadd aL_law_220 ?_
  refine e_ialoadX aL_law_221 (hin 1 (by decide)) ?_
  refine e_aload_n aL_law_222 rfl ?_
  refine e_iload_n aL_law_223 rfl ?_
  refine e_iconst (v := 2) aL_law_224 (by decide) ?_
  refine e_iadd aL_law_225 ?_
  refine e_ialoadX aL_law_226 (hin 2 (by decide)) ?_
  refine e_invv aL_law_227 kL_13 (op_order X I (xs X (nI i + 1).toNatClampNeg) (xs X (nI i + 2).toNatClampNeg)) rfl rfl (fx_is F rfl) (Nat.le_of_ble_eq_true rfl) (Nat.le_of_ble_eq_true rfl) (by omega) (by omega) (Nat.le_of_ble_eq_true rfl) ?_
  rintro v1 h1 ⟨x9, rfl, F1, C9⟩
  refine e_aload_n aL_law_230 rfl ?_
  refine e_aload_n aL_law_231 rfl ?_
  refine e_iload_n aL_law_232 rfl ?_
  refine e_iconst (v := 1) aL_law_233 (by decide) ?_
  refine e_iadd aL_law_234 ?_
  refine e_ialoadX aL_law_235 (hin 1 (by decide)) ?_
  refine e_aload_n aL_law_236 rfl ?_
  refine e_iload_n aL_law_237 rfl ?_
  refine e_iconst (v := 2) aL_law_238 (by decide) ?_
  refine e_iadd aL_law_239 ?_
  refine e_ialoadX aL_law_240 (hin 2 (by decide)) ?_
  refine e_invv aL_law_241 kL_17 C9 rfl rfl (fx_is F1 rfl) (Nat.le_of_ble_eq_true rfl) (Nat.le_of_ble_eq_true rfl) (by omega) (by omega) (Nat.le_of_ble_eq_true rfl) ?_
  rintro v2 h2 ⟨rfl, I2⟩
  exact e_icmp_eq aL_law_244 (fun _ => e_widen (by omega) (by omega) (k h2 I2)) (fun z => absurd rfl z)
theorem law_1 (X : EX) {nm : String} {c i cells slots : Nat} {h : HP} (I : Inv c h) (hin : ∀ j, j < 6 → vp_in (nI i + nI j) (xN X)) (hc9 : c ≤ 1000) (hc : cells + 39 ≤ 400000) (hs : slots + 377 ≤ 4000000) (k : ∀ h2, Inv (c + 1) h2 → Ev X (mL nm) 40 400000 4000000 QL (cells + 39) (slots + 377) 1524 (LSi i) [] h2) : Ev X (mL nm) 40 400000 4000000 QL cells slots 249 (LSi i) [] h := by
  have F : Fx h := I.F
  refine e_aload_n aL_law_249 rfl ?_
  refine e_aload_n aL_law_250 rfl ?_
  refine e_iload_n aL_law_251 rfl ?_
  refine e_iconst (v := 1) aL_law_252 (by decide) ?_
  refine e_iadd aL_law_253 ?_
  refine e_ialoadX aL_law_254 (hin 1 (by decide)) ?_
  refine e_aload_n aL_law_255 rfl ?_
  refine e_iload_n aL_law_256 rfl ?_
  refine e_iconst (v := 2) aL_law_257 (by decide) ?_
  refine e_iadd aL_law_258 ?_
  refine e_ialoadX aL_law_259 (hin 2 (by decide)) ?_
  refine e_invv aL_law_260 kL_18 (op_place X I (xs X (nI i + 1).toNatClampNeg) (xs X (nI i + 2).toNatClampNeg)) rfl rfl (fx_is F rfl) (Nat.le_of_ble_eq_true rfl) (Nat.le_of_ble_eq_true rfl) (by omega) (by omega) (Nat.le_of_ble_eq_true rfl) ?_
  rintro v1 h1 ⟨x9, rfl, F1, C9⟩
  refine e_aload_n aL_law_263 rfl ?_
  refine e_aload_n aL_law_264 rfl ?_
  refine e_iload_n aL_law_265 rfl ?_
  refine e_iconst (v := 1) aL_law_266 (by decide) ?_
  refine e_iadd aL_law_267 ?_
  refine e_ialoadX aL_law_268 (hin 1 (by decide)) ?_
  refine e_aload_n aL_law_269 rfl ?_
  refine e_iload_n aL_law_270 rfl ?_
  refine e_iconst (v := 2) aL_law_271 (by decide) ?_
  refine e_iadd aL_law_272 ?_
  refine e_ialoadX aL_law_273 (hin 2 (by decide)) ?_
  refine e_invv aL_law_274 kL_21 C9 rfl rfl (fx_is F1 rfl) (Nat.le_of_ble_eq_true rfl) (Nat.le_of_ble_eq_true rfl) (by omega) (by omega) (Nat.le_of_ble_eq_true rfl) ?_
  rintro v2 h2 ⟨rfl, I2⟩
  exact e_icmp_eq aL_law_277 (fun _ => e_widen (by omega) (by omega) (k h2 I2)) (fun z => absurd rfl z)
theorem law_2 (X : EX) {nm : String} {c i cells slots : Nat} {h : HP} (I : Inv c h) (hin : ∀ j, j < 6 → vp_in (nI i + nI j) (xN X)) (hc9 : c ≤ 1000) (hc : cells + 39 ≤ 400000) (hs : slots + 377 ≤ 4000000) (k : ∀ h2, Inv (c + 1) h2 → Ev X (mL nm) 40 400000 4000000 QL (cells + 39) (slots + 377) 1524 (LSi i) [] h2) : Ev X (mL nm) 40 400000 4000000 QL cells slots 282 (LSi i) [] h := by
  have F : Fx h := I.F
  refine e_aload_n aL_law_282 rfl ?_
  refine e_aload_n aL_law_283 rfl ?_
  refine e_iload_n aL_law_284 rfl ?_
  refine e_iconst (v := 1) aL_law_285 (by decide) ?_
  refine e_iadd aL_law_286 ?_
  refine e_ialoadX aL_law_287 (hin 1 (by decide)) ?_
  refine e_invv aL_law_288 kL_22 (op_fall X I (xs X (nI i + 1).toNatClampNeg)) rfl rfl (fx_is F rfl) (Nat.le_of_ble_eq_true rfl) (Nat.le_of_ble_eq_true rfl) (by omega) (by omega) (Nat.le_of_ble_eq_true rfl) ?_
  rintro v1 h1 ⟨x9, rfl, F1, C9⟩
  refine e_aload_n aL_law_291 rfl ?_
  refine e_aload_n aL_law_292 rfl ?_
  refine e_iload_n aL_law_293 rfl ?_
  refine e_iconst (v := 1) aL_law_294 (by decide) ?_
  refine e_iadd aL_law_295 ?_
  refine e_ialoadX aL_law_296 (hin 1 (by decide)) ?_
  refine e_invv aL_law_297 kL_26 C9 rfl rfl (fx_is F1 rfl) (Nat.le_of_ble_eq_true rfl) (Nat.le_of_ble_eq_true rfl) (by omega) (by omega) (Nat.le_of_ble_eq_true rfl) ?_
  rintro v2 h2 ⟨rfl, I2⟩
  exact e_icmp_eq aL_law_300 (fun _ => e_widen (by omega) (by omega) (k h2 I2)) (fun z => absurd rfl z)
theorem law_3 (X : EX) {nm : String} {c i cells slots : Nat} {h : HP} (I : Inv c h) (hin : ∀ j, j < 6 → vp_in (nI i + nI j) (xN X)) (hc9 : c ≤ 1000) (hc : cells + 39 ≤ 400000) (hs : slots + 377 ≤ 4000000) (k : ∀ h2, Inv (c + 1) h2 → Ev X (mL nm) 40 400000 4000000 QL (cells + 39) (slots + 377) 1524 (LSi i) [] h2) : Ev X (mL nm) 40 400000 4000000 QL cells slots 305 (LSi i) [] h := by
  have F : Fx h := I.F
  refine e_aload_n aL_law_305 rfl ?_
  refine e_aload_n aL_law_306 rfl ?_
  refine e_iload_n aL_law_307 rfl ?_
  refine e_iconst (v := 1) aL_law_308 (by decide) ?_
  refine e_iadd aL_law_309 ?_
  refine e_ialoadX aL_law_310 (hin 1 (by decide)) ?_
  refine e_invv aL_law_311 kL_27 (op_fallen X I (xs X (nI i + 1).toNatClampNeg)) rfl rfl (fx_is F rfl) (Nat.le_of_ble_eq_true rfl) (Nat.le_of_ble_eq_true rfl) (by omega) (by omega) (Nat.le_of_ble_eq_true rfl) ?_
  rintro v1 h1 ⟨x9, rfl, F1, C9⟩
  refine e_aload_n aL_law_314 rfl ?_
  refine e_aload_n aL_law_315 rfl ?_
  refine e_iload_n aL_law_316 rfl ?_
  refine e_iconst (v := 1) aL_law_317 (by decide) ?_
  refine e_iadd aL_law_318 ?_
  refine e_ialoadX aL_law_319 (hin 1 (by decide)) ?_
  refine e_invv aL_law_320 kL_30 C9 rfl rfl (fx_is F1 rfl) (Nat.le_of_ble_eq_true rfl) (Nat.le_of_ble_eq_true rfl) (by omega) (by omega) (Nat.le_of_ble_eq_true rfl) ?_
  rintro v2 h2 ⟨rfl, I2⟩
  exact e_icmp_eq aL_law_323 (fun _ => e_widen (by omega) (by omega) (k h2 I2)) (fun z => absurd rfl z)
theorem law_4 (X : EX) {nm : String} {c i cells slots : Nat} {h : HP} (I : Inv c h) (hin : ∀ j, j < 6 → vp_in (nI i + nI j) (xN X)) (hc9 : c ≤ 1000) (hc : cells + 39 ≤ 400000) (hs : slots + 377 ≤ 4000000) (k : ∀ h2, Inv (c + 1) h2 → Ev X (mL nm) 40 400000 4000000 QL (cells + 39) (slots + 377) 1524 (LSi i) [] h2) : Ev X (mL nm) 40 400000 4000000 QL cells slots 328 (LSi i) [] h := by
  have F : Fx h := I.F
  refine e_aload_n aL_law_328 rfl ?_
  refine e_invv aL_law_329 kL_31 (op_draw X I ) rfl rfl (fx_is F rfl) (Nat.le_of_ble_eq_true rfl) (Nat.le_of_ble_eq_true rfl) (by omega) (by omega) (Nat.le_of_ble_eq_true rfl) ?_
  rintro v1 h1 ⟨x9, rfl, F1, C9⟩
  refine e_aload_n aL_law_332 rfl ?_
  refine e_invv aL_law_333 kL_35 C9 rfl rfl (fx_is F1 rfl) (Nat.le_of_ble_eq_true rfl) (Nat.le_of_ble_eq_true rfl) (by omega) (by omega) (Nat.le_of_ble_eq_true rfl) ?_
  rintro v2 h2 ⟨rfl, I2⟩
  exact e_icmp_eq aL_law_336 (fun _ => e_widen (by omega) (by omega) (k h2 I2)) (fun z => absurd rfl z)
theorem law_5 (X : EX) {nm : String} {c i cells slots : Nat} {h : HP} (I : Inv c h) (hin : ∀ j, j < 6 → vp_in (nI i + nI j) (xN X)) (hc9 : c ≤ 1000) (hc : cells + 39 ≤ 400000) (hs : slots + 377 ≤ 4000000) (k : ∀ h2, Inv (c + 1) h2 → Ev X (mL nm) 40 400000 4000000 QL (cells + 39) (slots + 377) 1524 (LSi i) [] h2) : Ev X (mL nm) 40 400000 4000000 QL cells slots 341 (LSi i) [] h := by
  have F : Fx h := I.F
  refine e_aload_n aL_law_341 rfl ?_
  refine e_aload_n aL_law_342 rfl ?_
  refine e_iload_n aL_law_343 rfl ?_
  refine e_iconst (v := 1) aL_law_344 (by decide) ?_
  refine e_iadd aL_law_345 ?_
  refine e_ialoadX aL_law_346 (hin 1 (by decide)) ?_
  refine e_aload_n aL_law_347 rfl ?_
  refine e_iload_n aL_law_348 rfl ?_
  refine e_iconst (v := 2) aL_law_349 (by decide) ?_
  refine e_iadd aL_law_350 ?_
  refine e_ialoadX aL_law_351 (hin 2 (by decide)) ?_
  refine e_aload_n aL_law_352 rfl ?_
  refine e_iload_n aL_law_353 rfl ?_
  refine e_iconst (v := 3) aL_law_354 (by decide) ?_
  refine e_iadd aL_law_355 ?_
  refine e_ialoadX aL_law_356 (hin 3 (by decide)) ?_
  refine e_aload_n aL_law_357 rfl ?_
  refine e_iload_n aL_law_358 rfl ?_
  refine e_iconst (v := 4) aL_law_359 (by decide) ?_
  refine e_iadd aL_law_360 ?_
  refine e_ialoadX aL_law_361 (hin 4 (by decide)) ?_
  refine e_aload_n aL_law_362 rfl ?_
  refine e_iload_n aL_law_363 rfl ?_
  refine e_iconst (v := 5) aL_law_364 (by decide) ?_
  refine e_iadd aL_law_365 ?_
  refine e_ialoadX aL_law_366 (hin 5 (by decide)) ?_
  refine e_invv aL_law_367 kL_36 (op_sale X I (xs X (nI i + 1).toNatClampNeg) (xs X (nI i + 2).toNatClampNeg) (xs X (nI i + 3).toNatClampNeg) (xs X (nI i + 4).toNatClampNeg) (xs X (nI i + 5).toNatClampNeg)) rfl rfl (fx_is F rfl) (Nat.le_of_ble_eq_true rfl) (Nat.le_of_ble_eq_true rfl) (by omega) (by omega) (Nat.le_of_ble_eq_true rfl) ?_
  rintro v1 h1 ⟨x9, rfl, F1, C9⟩
  refine e_aload_n aL_law_370 rfl ?_
  refine e_aload_n aL_law_371 rfl ?_
  refine e_iload_n aL_law_372 rfl ?_
  refine e_iconst (v := 1) aL_law_373 (by decide) ?_
  refine e_iadd aL_law_374 ?_
  refine e_ialoadX aL_law_375 (hin 1 (by decide)) ?_
  refine e_aload_n aL_law_376 rfl ?_
  refine e_iload_n aL_law_377 rfl ?_
  refine e_iconst (v := 2) aL_law_378 (by decide) ?_
  refine e_iadd aL_law_379 ?_
  refine e_ialoadX aL_law_380 (hin 2 (by decide)) ?_
  refine e_aload_n aL_law_381 rfl ?_
  refine e_iload_n aL_law_382 rfl ?_
  refine e_iconst (v := 3) aL_law_383 (by decide) ?_
  refine e_iadd aL_law_384 ?_
  refine e_ialoadX aL_law_385 (hin 3 (by decide)) ?_
  refine e_aload_n aL_law_386 rfl ?_
  refine e_iload_n aL_law_387 rfl ?_
  refine e_iconst (v := 4) aL_law_388 (by decide) ?_
  refine e_iadd aL_law_389 ?_
  refine e_ialoadX aL_law_390 (hin 4 (by decide)) ?_
  refine e_aload_n aL_law_391 rfl ?_
  refine e_iload_n aL_law_392 rfl ?_
  refine e_iconst (v := 5) aL_law_393 (by decide) ?_
  refine e_iadd aL_law_394 ?_
  refine e_ialoadX aL_law_395 (hin 5 (by decide)) ?_
  refine e_invv aL_law_396 kL_40 C9 rfl rfl (fx_is F1 rfl) (Nat.le_of_ble_eq_true rfl) (Nat.le_of_ble_eq_true rfl) (by omega) (by omega) (Nat.le_of_ble_eq_true rfl) ?_
  rintro v2 h2 ⟨rfl, I2⟩
  exact e_icmp_eq aL_law_399 (fun _ => e_widen (by omega) (by omega) (k h2 I2)) (fun z => absurd rfl z)
theorem law_6 (X : EX) {nm : String} {c i cells slots : Nat} {h : HP} (I : Inv c h) (hin : ∀ j, j < 6 → vp_in (nI i + nI j) (xN X)) (hc9 : c ≤ 1000) (hc : cells + 39 ≤ 400000) (hs : slots + 377 ≤ 4000000) (k : ∀ h2, Inv (c + 1) h2 → Ev X (mL nm) 40 400000 4000000 QL (cells + 39) (slots + 377) 1524 (LSi i) [] h2) : Ev X (mL nm) 40 400000 4000000 QL cells slots 404 (LSi i) [] h := by
  have F : Fx h := I.F
  refine e_aload_n aL_law_404 rfl ?_
  refine e_aload_n aL_law_405 rfl ?_
  refine e_iload_n aL_law_406 rfl ?_
  refine e_iconst (v := 1) aL_law_407 (by decide) ?_
  refine e_iadd aL_law_408 ?_
  refine e_ialoadX aL_law_409 (hin 1 (by decide)) ?_
  refine e_aload_n aL_law_410 rfl ?_
  refine e_iload_n aL_law_411 rfl ?_
  refine e_iconst (v := 2) aL_law_412 (by decide) ?_
  refine e_iadd aL_law_413 ?_
  refine e_ialoadX aL_law_414 (hin 2 (by decide)) ?_
  refine e_aload_n aL_law_415 rfl ?_
  refine e_iload_n aL_law_416 rfl ?_
  refine e_iconst (v := 3) aL_law_417 (by decide) ?_
  refine e_iadd aL_law_418 ?_
  refine e_ialoadX aL_law_419 (hin 3 (by decide)) ?_
  refine e_aload_n aL_law_420 rfl ?_
  refine e_iload_n aL_law_421 rfl ?_
  refine e_iconst (v := 4) aL_law_422 (by decide) ?_
  refine e_iadd aL_law_423 ?_
  refine e_ialoadX aL_law_424 (hin 4 (by decide)) ?_
  refine e_aload_n aL_law_425 rfl ?_
  refine e_iload_n aL_law_426 rfl ?_
  refine e_iconst (v := 5) aL_law_427 (by decide) ?_
  refine e_iadd aL_law_428 ?_
  refine e_ialoadX aL_law_429 (hin 5 (by decide)) ?_
  refine e_invv aL_law_430 kL_41 (op_swap X I (xs X (nI i + 1).toNatClampNeg) (xs X (nI i + 2).toNatClampNeg) (xs X (nI i + 3).toNatClampNeg) (xs X (nI i + 4).toNatClampNeg) (xs X (nI i + 5).toNatClampNeg)) rfl rfl (fx_is F rfl) (Nat.le_of_ble_eq_true rfl) (Nat.le_of_ble_eq_true rfl) (by omega) (by omega) (Nat.le_of_ble_eq_true rfl) ?_
  rintro v1 h1 ⟨x9, rfl, F1, C9⟩
  refine e_aload_n aL_law_433 rfl ?_
  refine e_aload_n aL_law_434 rfl ?_
  refine e_iload_n aL_law_435 rfl ?_
  refine e_iconst (v := 1) aL_law_436 (by decide) ?_
  refine e_iadd aL_law_437 ?_
  refine e_ialoadX aL_law_438 (hin 1 (by decide)) ?_
  refine e_aload_n aL_law_439 rfl ?_
  refine e_iload_n aL_law_440 rfl ?_
  refine e_iconst (v := 2) aL_law_441 (by decide) ?_
  refine e_iadd aL_law_442 ?_
  refine e_ialoadX aL_law_443 (hin 2 (by decide)) ?_
  refine e_aload_n aL_law_444 rfl ?_
  refine e_iload_n aL_law_445 rfl ?_
  refine e_iconst (v := 3) aL_law_446 (by decide) ?_
  refine e_iadd aL_law_447 ?_
  refine e_ialoadX aL_law_448 (hin 3 (by decide)) ?_
  refine e_aload_n aL_law_449 rfl ?_
  refine e_iload_n aL_law_450 rfl ?_
  refine e_iconst (v := 4) aL_law_451 (by decide) ?_
  refine e_iadd aL_law_452 ?_
  refine e_ialoadX aL_law_453 (hin 4 (by decide)) ?_
  refine e_aload_n aL_law_454 rfl ?_
  refine e_iload_n aL_law_455 rfl ?_
  refine e_iconst (v := 5) aL_law_456 (by decide) ?_
  refine e_iadd aL_law_457 ?_
  refine e_ialoadX aL_law_458 (hin 5 (by decide)) ?_
  refine e_invv aL_law_459 kL_44 C9 rfl rfl (fx_is F1 rfl) (Nat.le_of_ble_eq_true rfl) (Nat.le_of_ble_eq_true rfl) (by omega) (by omega) (Nat.le_of_ble_eq_true rfl) ?_
  rintro v2 h2 ⟨rfl, I2⟩
  exact e_icmp_eq aL_law_462 (fun _ => e_widen (by omega) (by omega) (k h2 I2)) (fun z => absurd rfl z)
theorem law_7 (X : EX) {nm : String} {c i cells slots : Nat} {h : HP} (I : Inv c h) (hin : ∀ j, j < 6 → vp_in (nI i + nI j) (xN X)) (hc9 : c ≤ 1000) (hc : cells + 39 ≤ 400000) (hs : slots + 377 ≤ 4000000) (k : ∀ h2, Inv (c + 1) h2 → Ev X (mL nm) 40 400000 4000000 QL (cells + 39) (slots + 377) 1524 (LSi i) [] h2) : Ev X (mL nm) 40 400000 4000000 QL cells slots 467 (LSi i) [] h := by
  have F : Fx h := I.F
  refine e_aload_n aL_law_467 rfl ?_
  refine e_invv aL_law_468 kL_45 (op_text X I ) rfl rfl (fx_is F rfl) (Nat.le_of_ble_eq_true rfl) (Nat.le_of_ble_eq_true rfl) (by omega) (by omega) (Nat.le_of_ble_eq_true rfl) ?_
  rintro v1 h1 ⟨x9, rfl, F1, C9⟩
  refine e_aload_n aL_law_471 rfl ?_
  refine e_invv aL_law_472 kL_48 C9 rfl rfl (fx_is F1 rfl) (Nat.le_of_ble_eq_true rfl) (Nat.le_of_ble_eq_true rfl) (by omega) (by omega) (Nat.le_of_ble_eq_true rfl) ?_
  rintro v2 h2 ⟨rfl, I2⟩
  exact e_icmp_eq aL_law_475 (fun _ => e_widen (by omega) (by omega) (k h2 I2)) (fun z => absurd rfl z)
theorem law_8 (X : EX) {nm : String} {c i cells slots : Nat} {h : HP} (I : Inv c h) (hin : ∀ j, j < 6 → vp_in (nI i + nI j) (xN X)) (hc9 : c ≤ 1000) (hc : cells + 39 ≤ 400000) (hs : slots + 377 ≤ 4000000) (k : ∀ h2, Inv (c + 1) h2 → Ev X (mL nm) 40 400000 4000000 QL (cells + 39) (slots + 377) 1524 (LSi i) [] h2) : Ev X (mL nm) 40 400000 4000000 QL cells slots 480 (LSi i) [] h := by
  have F : Fx h := I.F
  refine e_aload_n aL_law_480 rfl ?_
  refine e_aload_n aL_law_481 rfl ?_
  refine e_iload_n aL_law_482 rfl ?_
  refine e_iconst (v := 1) aL_law_483 (by decide) ?_
  refine e_iadd aL_law_484 ?_
  refine e_ialoadX aL_law_485 (hin 1 (by decide)) ?_
  refine e_aload_n aL_law_486 rfl ?_
  refine e_iload_n aL_law_487 rfl ?_
  refine e_iconst (v := 2) aL_law_488 (by decide) ?_
  refine e_iadd aL_law_489 ?_
  refine e_ialoadX aL_law_490 (hin 2 (by decide)) ?_
  refine e_invv aL_law_491 kL_49 (op_of X I (xs X (nI i + 1).toNatClampNeg) (xs X (nI i + 2).toNatClampNeg)) rfl rfl (fx_is F rfl) (Nat.le_of_ble_eq_true rfl) (Nat.le_of_ble_eq_true rfl) (by omega) (by omega) (Nat.le_of_ble_eq_true rfl) ?_
  rintro v1 h1 ⟨x9, rfl, F1, C9⟩
  refine e_aload_n aL_law_494 rfl ?_
  refine e_aload_n aL_law_495 rfl ?_
  refine e_iload_n aL_law_496 rfl ?_
  refine e_iconst (v := 1) aL_law_497 (by decide) ?_
  refine e_iadd aL_law_498 ?_
  refine e_ialoadX aL_law_499 (hin 1 (by decide)) ?_
  refine e_aload_n aL_law_500 rfl ?_
  refine e_iload_n aL_law_501 rfl ?_
  refine e_iconst (v := 2) aL_law_502 (by decide) ?_
  refine e_iadd aL_law_503 ?_
  refine e_ialoadX aL_law_504 (hin 2 (by decide)) ?_
  refine e_invv aL_law_505 kL_52 C9 rfl rfl (fx_is F1 rfl) (Nat.le_of_ble_eq_true rfl) (Nat.le_of_ble_eq_true rfl) (by omega) (by omega) (Nat.le_of_ble_eq_true rfl) ?_
  rintro v2 h2 ⟨rfl, I2⟩
  exact e_icmp_eq aL_law_508 (fun _ => e_widen (by omega) (by omega) (k h2 I2)) (fun z => absurd rfl z)
theorem law_9 (X : EX) {nm : String} {c i cells slots : Nat} {h : HP} (I : Inv c h) (hin : ∀ j, j < 6 → vp_in (nI i + nI j) (xN X)) (hc9 : c ≤ 1000) (hc : cells + 39 ≤ 400000) (hs : slots + 377 ≤ 4000000) (k : ∀ h2, Inv (c + 1) h2 → Ev X (mL nm) 40 400000 4000000 QL (cells + 39) (slots + 377) 1524 (LSi i) [] h2) : Ev X (mL nm) 40 400000 4000000 QL cells slots 513 (LSi i) [] h := by
  have F : Fx h := I.F
  refine e_aload_n aL_law_513 rfl ?_
  refine e_aload_n aL_law_514 rfl ?_
  refine e_iload_n aL_law_515 rfl ?_
  refine e_iconst (v := 1) aL_law_516 (by decide) ?_
  refine e_iadd aL_law_517 ?_
  refine e_ialoadX aL_law_518 (hin 1 (by decide)) ?_
  refine e_aload_n aL_law_519 rfl ?_
  refine e_iload_n aL_law_520 rfl ?_
  refine e_iconst (v := 2) aL_law_521 (by decide) ?_
  refine e_iadd aL_law_522 ?_
  refine e_ialoadX aL_law_523 (hin 2 (by decide)) ?_
  refine e_invv aL_law_524 kL_53 (op_holds X I (xs X (nI i + 1).toNatClampNeg) (xs X (nI i + 2).toNatClampNeg)) rfl rfl (fx_is F rfl) (Nat.le_of_ble_eq_true rfl) (Nat.le_of_ble_eq_true rfl) (by omega) (by omega) (Nat.le_of_ble_eq_true rfl) ?_
  rintro v1 h1 ⟨x9, rfl, F1, C9⟩
  refine e_aload_n aL_law_527 rfl ?_
  refine e_aload_n aL_law_528 rfl ?_
  refine e_iload_n aL_law_529 rfl ?_
  refine e_iconst (v := 1) aL_law_530 (by decide) ?_
  refine e_iadd aL_law_531 ?_
  refine e_ialoadX aL_law_532 (hin 1 (by decide)) ?_
  refine e_aload_n aL_law_533 rfl ?_
  refine e_iload_n aL_law_534 rfl ?_
  refine e_iconst (v := 2) aL_law_535 (by decide) ?_
  refine e_iadd aL_law_536 ?_
  refine e_ialoadX aL_law_537 (hin 2 (by decide)) ?_
  refine e_invv aL_law_538 kL_56 C9 rfl rfl (fx_is F1 rfl) (Nat.le_of_ble_eq_true rfl) (Nat.le_of_ble_eq_true rfl) (by omega) (by omega) (Nat.le_of_ble_eq_true rfl) ?_
  rintro v2 h2 ⟨rfl, I2⟩
  exact e_icmp_eq aL_law_541 (fun _ => e_widen (by omega) (by omega) (k h2 I2)) (fun z => absurd rfl z)
theorem law_10 (X : EX) {nm : String} {c i cells slots : Nat} {h : HP} (I : Inv c h) (hin : ∀ j, j < 6 → vp_in (nI i + nI j) (xN X)) (hc9 : c ≤ 1000) (hc : cells + 39 ≤ 400000) (hs : slots + 377 ≤ 4000000) (k : ∀ h2, Inv (c + 1) h2 → Ev X (mL nm) 40 400000 4000000 QL (cells + 39) (slots + 377) 1524 (LSi i) [] h2) : Ev X (mL nm) 40 400000 4000000 QL cells slots 546 (LSi i) [] h := by
  have F : Fx h := I.F
  refine e_aload_n aL_law_546 rfl ?_
  refine e_aload_n aL_law_547 rfl ?_
  refine e_iload_n aL_law_548 rfl ?_
  refine e_iconst (v := 1) aL_law_549 (by decide) ?_
  refine e_iadd aL_law_550 ?_
  refine e_ialoadX aL_law_551 (hin 1 (by decide)) ?_
  refine e_aload_n aL_law_552 rfl ?_
  refine e_iload_n aL_law_553 rfl ?_
  refine e_iconst (v := 2) aL_law_554 (by decide) ?_
  refine e_iadd aL_law_555 ?_
  refine e_ialoadX aL_law_556 (hin 2 (by decide)) ?_
  refine e_aload_n aL_law_557 rfl ?_
  refine e_iload_n aL_law_558 rfl ?_
  refine e_iconst (v := 3) aL_law_559 (by decide) ?_
  refine e_iadd aL_law_560 ?_
  refine e_ialoadX aL_law_561 (hin 3 (by decide)) ?_
  refine e_invv aL_law_562 kL_57 (op_conveys X I (xs X (nI i + 1).toNatClampNeg) (xs X (nI i + 2).toNatClampNeg) (xs X (nI i + 3).toNatClampNeg)) rfl rfl (fx_is F rfl) (Nat.le_of_ble_eq_true rfl) (Nat.le_of_ble_eq_true rfl) (by omega) (by omega) (Nat.le_of_ble_eq_true rfl) ?_
  rintro v1 h1 ⟨x9, rfl, F1, C9⟩
  refine e_aload_n aL_law_565 rfl ?_
  refine e_aload_n aL_law_566 rfl ?_
  refine e_iload_n aL_law_567 rfl ?_
  refine e_iconst (v := 1) aL_law_568 (by decide) ?_
  refine e_iadd aL_law_569 ?_
  refine e_ialoadX aL_law_570 (hin 1 (by decide)) ?_
  refine e_aload_n aL_law_571 rfl ?_
  refine e_iload_n aL_law_572 rfl ?_
  refine e_iconst (v := 2) aL_law_573 (by decide) ?_
  refine e_iadd aL_law_574 ?_
  refine e_ialoadX aL_law_575 (hin 2 (by decide)) ?_
  refine e_aload_n aL_law_576 rfl ?_
  refine e_iload_n aL_law_577 rfl ?_
  refine e_iconst (v := 3) aL_law_578 (by decide) ?_
  refine e_iadd aL_law_579 ?_
  refine e_ialoadX aL_law_580 (hin 3 (by decide)) ?_
  refine e_invv aL_law_581 kL_61 C9 rfl rfl (fx_is F1 rfl) (Nat.le_of_ble_eq_true rfl) (Nat.le_of_ble_eq_true rfl) (by omega) (by omega) (Nat.le_of_ble_eq_true rfl) ?_
  rintro v2 h2 ⟨rfl, I2⟩
  exact e_icmp_eq aL_law_584 (fun _ => e_widen (by omega) (by omega) (k h2 I2)) (fun z => absurd rfl z)
theorem law_11 (X : EX) {nm : String} {c i cells slots : Nat} {h : HP} (I : Inv c h) (hin : ∀ j, j < 6 → vp_in (nI i + nI j) (xN X)) (hc9 : c ≤ 1000) (hc : cells + 39 ≤ 400000) (hs : slots + 377 ≤ 4000000) (k : ∀ h2, Inv (c + 1) h2 → Ev X (mL nm) 40 400000 4000000 QL (cells + 39) (slots + 377) 1524 (LSi i) [] h2) : Ev X (mL nm) 40 400000 4000000 QL cells slots 589 (LSi i) [] h := by
  have F : Fx h := I.F
  refine e_aload_n aL_law_589 rfl ?_
  refine e_invv aL_law_590 kL_62 (op_drop X I ) rfl rfl (fx_is F rfl) (Nat.le_of_ble_eq_true rfl) (Nat.le_of_ble_eq_true rfl) (by omega) (by omega) (Nat.le_of_ble_eq_true rfl) ?_
  rintro v1 h1 ⟨x9, rfl, F1, C9⟩
  refine e_aload_n aL_law_593 rfl ?_
  refine e_invv aL_law_594 kL_65 C9 rfl rfl (fx_is F1 rfl) (Nat.le_of_ble_eq_true rfl) (Nat.le_of_ble_eq_true rfl) (by omega) (by omega) (Nat.le_of_ble_eq_true rfl) ?_
  rintro v2 h2 ⟨rfl, I2⟩
  exact e_icmp_eq aL_law_597 (fun _ => e_widen (by omega) (by omega) (k h2 I2)) (fun z => absurd rfl z)
theorem law_12 (X : EX) {nm : String} {c i cells slots : Nat} {h : HP} (I : Inv c h) (hin : ∀ j, j < 6 → vp_in (nI i + nI j) (xN X)) (hc9 : c ≤ 1000) (hc : cells + 39 ≤ 400000) (hs : slots + 377 ≤ 4000000) (k : ∀ h2, Inv (c + 1) h2 → Ev X (mL nm) 40 400000 4000000 QL (cells + 39) (slots + 377) 1524 (LSi i) [] h2) : Ev X (mL nm) 40 400000 4000000 QL cells slots 602 (LSi i) [] h := by
  have F : Fx h := I.F
  refine e_aload_n aL_law_602 rfl ?_
  refine e_invv aL_law_603 kL_66 (op_prune X I ) rfl rfl (fx_is F rfl) (Nat.le_of_ble_eq_true rfl) (Nat.le_of_ble_eq_true rfl) (by omega) (by omega) (Nat.le_of_ble_eq_true rfl) ?_
  rintro v1 h1 ⟨x9, rfl, F1, C9⟩
  refine e_aload_n aL_law_606 rfl ?_
  refine e_invv aL_law_607 kL_69 C9 rfl rfl (fx_is F1 rfl) (Nat.le_of_ble_eq_true rfl) (Nat.le_of_ble_eq_true rfl) (by omega) (by omega) (Nat.le_of_ble_eq_true rfl) ?_
  rintro v2 h2 ⟨rfl, I2⟩
  exact e_icmp_eq aL_law_610 (fun _ => e_widen (by omega) (by omega) (k h2 I2)) (fun z => absurd rfl z)
theorem law_13 (X : EX) {nm : String} {c i cells slots : Nat} {h : HP} (I : Inv c h) (hin : ∀ j, j < 6 → vp_in (nI i + nI j) (xN X)) (hc9 : c ≤ 1000) (hc : cells + 39 ≤ 400000) (hs : slots + 377 ≤ 4000000) (k : ∀ h2, Inv (c + 1) h2 → Ev X (mL nm) 40 400000 4000000 QL (cells + 39) (slots + 377) 1524 (LSi i) [] h2) : Ev X (mL nm) 40 400000 4000000 QL cells slots 615 (LSi i) [] h := by
  have F : Fx h := I.F
  refine e_aload_n aL_law_615 rfl ?_
  refine e_aload_n aL_law_616 rfl ?_
  refine e_iload_n aL_law_617 rfl ?_
  refine e_iconst (v := 1) aL_law_618 (by decide) ?_
  refine e_iadd aL_law_619 ?_
  refine e_ialoadX aL_law_620 (hin 1 (by decide)) ?_
  refine e_invv aL_law_621 kL_70 (op_clash X I (xs X (nI i + 1).toNatClampNeg)) rfl rfl (fx_is F rfl) (Nat.le_of_ble_eq_true rfl) (Nat.le_of_ble_eq_true rfl) (by omega) (by omega) (Nat.le_of_ble_eq_true rfl) ?_
  rintro v1 h1 ⟨x9, rfl, F1, C9⟩
  refine e_aload_n aL_law_624 rfl ?_
  refine e_aload_n aL_law_625 rfl ?_
  refine e_iload_n aL_law_626 rfl ?_
  refine e_iconst (v := 1) aL_law_627 (by decide) ?_
  refine e_iadd aL_law_628 ?_
  refine e_ialoadX aL_law_629 (hin 1 (by decide)) ?_
  refine e_invv aL_law_630 kL_73 C9 rfl rfl (fx_is F1 rfl) (Nat.le_of_ble_eq_true rfl) (Nat.le_of_ble_eq_true rfl) (by omega) (by omega) (Nat.le_of_ble_eq_true rfl) ?_
  rintro v2 h2 ⟨rfl, I2⟩
  exact e_icmp_eq aL_law_633 (fun _ => e_widen (by omega) (by omega) (k h2 I2)) (fun z => absurd rfl z)
theorem law_14 (X : EX) {nm : String} {c i cells slots : Nat} {h : HP} (I : Inv c h) (hin : ∀ j, j < 6 → vp_in (nI i + nI j) (xN X)) (hc9 : c ≤ 1000) (hc : cells + 39 ≤ 400000) (hs : slots + 377 ≤ 4000000) (k : ∀ h2, Inv (c + 1) h2 → Ev X (mL nm) 40 400000 4000000 QL (cells + 39) (slots + 377) 1524 (LSi i) [] h2) : Ev X (mL nm) 40 400000 4000000 QL cells slots 638 (LSi i) [] h := by
  have F : Fx h := I.F
  refine e_aload_n aL_law_638 rfl ?_
  refine e_aload_n aL_law_639 rfl ?_
  refine e_iload_n aL_law_640 rfl ?_
  refine e_iconst (v := 1) aL_law_641 (by decide) ?_
  refine e_iadd aL_law_642 ?_
  refine e_ialoadX aL_law_643 (hin 1 (by decide)) ?_
  refine e_aload_n aL_law_644 rfl ?_
  refine e_iload_n aL_law_645 rfl ?_
  refine e_iconst (v := 2) aL_law_646 (by decide) ?_
  refine e_iadd aL_law_647 ?_
  refine e_ialoadX aL_law_648 (hin 2 (by decide)) ?_
  refine e_invv aL_law_649 kL_74 (op_owner X I (xs X (nI i + 1).toNatClampNeg) (xs X (nI i + 2).toNatClampNeg)) rfl rfl (fx_is F rfl) (Nat.le_of_ble_eq_true rfl) (Nat.le_of_ble_eq_true rfl) (by omega) (by omega) (Nat.le_of_ble_eq_true rfl) ?_
  rintro v1 h1 ⟨x9, rfl, F1, C9⟩
  refine e_aload_n aL_law_652 rfl ?_
  refine e_aload_n aL_law_653 rfl ?_
  refine e_iload_n aL_law_654 rfl ?_
  refine e_iconst (v := 1) aL_law_655 (by decide) ?_
  refine e_iadd aL_law_656 ?_
  refine e_ialoadX aL_law_657 (hin 1 (by decide)) ?_
  refine e_aload_n aL_law_658 rfl ?_
  refine e_iload_n aL_law_659 rfl ?_
  refine e_iconst (v := 2) aL_law_660 (by decide) ?_
  refine e_iadd aL_law_661 ?_
  refine e_ialoadX aL_law_662 (hin 2 (by decide)) ?_
  refine e_invv aL_law_663 kL_77 C9 rfl rfl (fx_is F1 rfl) (Nat.le_of_ble_eq_true rfl) (Nat.le_of_ble_eq_true rfl) (by omega) (by omega) (Nat.le_of_ble_eq_true rfl) ?_
  rintro v2 h2 ⟨rfl, I2⟩
  exact e_icmp_eq aL_law_666 (fun _ => e_widen (by omega) (by omega) (k h2 I2)) (fun z => absurd rfl z)
theorem law_15 (X : EX) {nm : String} {c i cells slots : Nat} {h : HP} (I : Inv c h) (hin : ∀ j, j < 6 → vp_in (nI i + nI j) (xN X)) (hc9 : c ≤ 1000) (hc : cells + 39 ≤ 400000) (hs : slots + 377 ≤ 4000000) (k : ∀ h2, Inv (c + 1) h2 → Ev X (mL nm) 40 400000 4000000 QL (cells + 39) (slots + 377) 1524 (LSi i) [] h2) : Ev X (mL nm) 40 400000 4000000 QL cells slots 671 (LSi i) [] h := by
  have F : Fx h := I.F
  refine e_aload_n aL_law_671 rfl ?_
  refine e_aload_n aL_law_672 rfl ?_
  refine e_iload_n aL_law_673 rfl ?_
  refine e_iconst (v := 1) aL_law_674 (by decide) ?_
  refine e_iadd aL_law_675 ?_
  refine e_ialoadX aL_law_676 (hin 1 (by decide)) ?_
  refine e_aload_n aL_law_677 rfl ?_
  refine e_iload_n aL_law_678 rfl ?_
  refine e_iconst (v := 2) aL_law_679 (by decide) ?_
  refine e_iadd aL_law_680 ?_
  refine e_ialoadX aL_law_681 (hin 2 (by decide)) ?_
  refine e_aload_n aL_law_682 rfl ?_
  refine e_iload_n aL_law_683 rfl ?_
  refine e_iconst (v := 3) aL_law_684 (by decide) ?_
  refine e_iadd aL_law_685 ?_
  refine e_ialoadX aL_law_686 (hin 3 (by decide)) ?_
  refine e_invv aL_law_687 kL_78 (op_chain X I (xs X (nI i + 1).toNatClampNeg) (xs X (nI i + 2).toNatClampNeg) (xs X (nI i + 3).toNatClampNeg)) rfl rfl (fx_is F rfl) (Nat.le_of_ble_eq_true rfl) (Nat.le_of_ble_eq_true rfl) (by omega) (by omega) (Nat.le_of_ble_eq_true rfl) ?_
  rintro v1 h1 ⟨x9, rfl, F1, C9⟩
  refine e_aload_n aL_law_690 rfl ?_
  refine e_aload_n aL_law_691 rfl ?_
  refine e_iload_n aL_law_692 rfl ?_
  refine e_iconst (v := 1) aL_law_693 (by decide) ?_
  refine e_iadd aL_law_694 ?_
  refine e_ialoadX aL_law_695 (hin 1 (by decide)) ?_
  refine e_aload_n aL_law_696 rfl ?_
  refine e_iload_n aL_law_697 rfl ?_
  refine e_iconst (v := 2) aL_law_698 (by decide) ?_
  refine e_iadd aL_law_699 ?_
  refine e_ialoadX aL_law_700 (hin 2 (by decide)) ?_
  refine e_aload_n aL_law_701 rfl ?_
  refine e_iload_n aL_law_702 rfl ?_
  refine e_iconst (v := 3) aL_law_703 (by decide) ?_
  refine e_iadd aL_law_704 ?_
  refine e_ialoadX aL_law_705 (hin 3 (by decide)) ?_
  refine e_invv aL_law_706 kL_81 C9 rfl rfl (fx_is F1 rfl) (Nat.le_of_ble_eq_true rfl) (Nat.le_of_ble_eq_true rfl) (by omega) (by omega) (Nat.le_of_ble_eq_true rfl) ?_
  rintro v2 h2 ⟨rfl, I2⟩
  exact e_icmp_eq aL_law_709 (fun _ => e_widen (by omega) (by omega) (k h2 I2)) (fun z => absurd rfl z)
theorem law_16 (X : EX) {nm : String} {c i cells slots : Nat} {h : HP} (I : Inv c h) (hin : ∀ j, j < 6 → vp_in (nI i + nI j) (xN X)) (hc9 : c ≤ 1000) (hc : cells + 39 ≤ 400000) (hs : slots + 377 ≤ 4000000) (k : ∀ h2, Inv (c + 1) h2 → Ev X (mL nm) 40 400000 4000000 QL (cells + 39) (slots + 377) 1524 (LSi i) [] h2) : Ev X (mL nm) 40 400000 4000000 QL cells slots 714 (LSi i) [] h := by
  have F : Fx h := I.F
  refine e_aload_n aL_law_714 rfl ?_
  refine e_aload_n aL_law_715 rfl ?_
  refine e_iload_n aL_law_716 rfl ?_
  refine e_iconst (v := 1) aL_law_717 (by decide) ?_
  refine e_iadd aL_law_718 ?_
  refine e_ialoadX aL_law_719 (hin 1 (by decide)) ?_
  refine e_aload_n aL_law_720 rfl ?_
  refine e_iload_n aL_law_721 rfl ?_
  refine e_iconst (v := 2) aL_law_722 (by decide) ?_
  refine e_iadd aL_law_723 ?_
  refine e_ialoadX aL_law_724 (hin 2 (by decide)) ?_
  refine e_invv aL_law_725 kL_82 (op_hand X I (xs X (nI i + 1).toNatClampNeg) (xs X (nI i + 2).toNatClampNeg)) rfl rfl (fx_is F rfl) (Nat.le_of_ble_eq_true rfl) (Nat.le_of_ble_eq_true rfl) (by omega) (by omega) (Nat.le_of_ble_eq_true rfl) ?_
  rintro v1 h1 ⟨x9, rfl, F1, C9⟩
  refine e_aload_n aL_law_728 rfl ?_
  refine e_aload_n aL_law_729 rfl ?_
  refine e_iload_n aL_law_730 rfl ?_
  refine e_iconst (v := 1) aL_law_731 (by decide) ?_
  refine e_iadd aL_law_732 ?_
  refine e_ialoadX aL_law_733 (hin 1 (by decide)) ?_
  refine e_aload_n aL_law_734 rfl ?_
  refine e_iload_n aL_law_735 rfl ?_
  refine e_iconst (v := 2) aL_law_736 (by decide) ?_
  refine e_iadd aL_law_737 ?_
  refine e_ialoadX aL_law_738 (hin 2 (by decide)) ?_
  refine e_invv aL_law_739 kL_85 C9 rfl rfl (fx_is F1 rfl) (Nat.le_of_ble_eq_true rfl) (Nat.le_of_ble_eq_true rfl) (by omega) (by omega) (Nat.le_of_ble_eq_true rfl) ?_
  rintro v2 h2 ⟨rfl, I2⟩
  exact e_icmp_eq aL_law_742 (fun _ => e_widen (by omega) (by omega) (k h2 I2)) (fun z => absurd rfl z)
theorem law_17 (X : EX) {nm : String} {c i cells slots : Nat} {h : HP} (I : Inv c h) (hin : ∀ j, j < 6 → vp_in (nI i + nI j) (xN X)) (hc9 : c ≤ 1000) (hc : cells + 39 ≤ 400000) (hs : slots + 377 ≤ 4000000) (k : ∀ h2, Inv (c + 1) h2 → Ev X (mL nm) 40 400000 4000000 QL (cells + 39) (slots + 377) 1524 (LSi i) [] h2) : Ev X (mL nm) 40 400000 4000000 QL cells slots 747 (LSi i) [] h := by
  have F : Fx h := I.F
  refine e_aload_n aL_law_747 rfl ?_
  refine e_aload_n aL_law_748 rfl ?_
  refine e_iload_n aL_law_749 rfl ?_
  refine e_iconst (v := 1) aL_law_750 (by decide) ?_
  refine e_iadd aL_law_751 ?_
  refine e_ialoadX aL_law_752 (hin 1 (by decide)) ?_
  refine e_invv aL_law_753 kL_86 (op_owners X I (xs X (nI i + 1).toNatClampNeg)) rfl rfl (fx_is F rfl) (Nat.le_of_ble_eq_true rfl) (Nat.le_of_ble_eq_true rfl) (by omega) (by omega) (Nat.le_of_ble_eq_true rfl) ?_
  rintro v1 h1 ⟨x9, rfl, F1, C9⟩
  refine e_aload_n aL_law_756 rfl ?_
  refine e_aload_n aL_law_757 rfl ?_
  refine e_iload_n aL_law_758 rfl ?_
  refine e_iconst (v := 1) aL_law_759 (by decide) ?_
  refine e_iadd aL_law_760 ?_
  refine e_ialoadX aL_law_761 (hin 1 (by decide)) ?_
  refine e_invv aL_law_762 kL_89 C9 rfl rfl (fx_is F1 rfl) (Nat.le_of_ble_eq_true rfl) (Nat.le_of_ble_eq_true rfl) (by omega) (by omega) (Nat.le_of_ble_eq_true rfl) ?_
  rintro v2 h2 ⟨rfl, I2⟩
  exact e_icmp_eq aL_law_765 (fun _ => e_widen (by omega) (by omega) (k h2 I2)) (fun z => absurd rfl z)
theorem law_18 (X : EX) {nm : String} {c i cells slots : Nat} {h : HP} (I : Inv c h) (hin : ∀ j, j < 6 → vp_in (nI i + nI j) (xN X)) (hc9 : c ≤ 1000) (hc : cells + 39 ≤ 400000) (hs : slots + 377 ≤ 4000000) (k : ∀ h2, Inv (c + 1) h2 → Ev X (mL nm) 40 400000 4000000 QL (cells + 39) (slots + 377) 1524 (LSi i) [] h2) : Ev X (mL nm) 40 400000 4000000 QL cells slots 770 (LSi i) [] h := by
  have F : Fx h := I.F
  refine e_aload_n aL_law_770 rfl ?_
  refine e_aload_n aL_law_771 rfl ?_
  refine e_iload_n aL_law_772 rfl ?_
  refine e_iconst (v := 1) aL_law_773 (by decide) ?_
  refine e_iadd aL_law_774 ?_
  refine e_ialoadX aL_law_775 (hin 1 (by decide)) ?_
  refine e_invv aL_law_776 kL_90 (op_sure X I (xs X (nI i + 1).toNatClampNeg)) rfl rfl (fx_is F rfl) (Nat.le_of_ble_eq_true rfl) (Nat.le_of_ble_eq_true rfl) (by omega) (by omega) (Nat.le_of_ble_eq_true rfl) ?_
  rintro v1 h1 ⟨x9, rfl, F1, C9⟩
  refine e_aload_n aL_law_779 rfl ?_
  refine e_aload_n aL_law_780 rfl ?_
  refine e_iload_n aL_law_781 rfl ?_
  refine e_iconst (v := 1) aL_law_782 (by decide) ?_
  refine e_iadd aL_law_783 ?_
  refine e_ialoadX aL_law_784 (hin 1 (by decide)) ?_
  refine e_invv aL_law_785 kL_93 C9 rfl rfl (fx_is F1 rfl) (Nat.le_of_ble_eq_true rfl) (Nat.le_of_ble_eq_true rfl) (by omega) (by omega) (Nat.le_of_ble_eq_true rfl) ?_
  rintro v2 h2 ⟨rfl, I2⟩
  exact e_icmp_eq aL_law_788 (fun _ => e_widen (by omega) (by omega) (k h2 I2)) (fun z => absurd rfl z)
theorem law_19 (X : EX) {nm : String} {c i cells slots : Nat} {h : HP} (I : Inv c h) (hin : ∀ j, j < 6 → vp_in (nI i + nI j) (xN X)) (hc9 : c ≤ 1000) (hc : cells + 39 ≤ 400000) (hs : slots + 377 ≤ 4000000) (k : ∀ h2, Inv (c + 1) h2 → Ev X (mL nm) 40 400000 4000000 QL (cells + 39) (slots + 377) 1524 (LSi i) [] h2) : Ev X (mL nm) 40 400000 4000000 QL cells slots 793 (LSi i) [] h := by
  have F : Fx h := I.F
  refine e_aload_n aL_law_793 rfl ?_
  refine e_aload_n aL_law_794 rfl ?_
  refine e_iload_n aL_law_795 rfl ?_
  refine e_iconst (v := 1) aL_law_796 (by decide) ?_
  refine e_iadd aL_law_797 ?_
  refine e_ialoadX aL_law_798 (hin 1 (by decide)) ?_
  refine e_aload_n aL_law_799 rfl ?_
  refine e_iload_n aL_law_800 rfl ?_
  refine e_iconst (v := 2) aL_law_801 (by decide) ?_
  refine e_iadd aL_law_802 ?_
  refine e_ialoadX aL_law_803 (hin 2 (by decide)) ?_
  refine e_invv aL_law_804 kL_94 (op_chance X I (xs X (nI i + 1).toNatClampNeg) (xs X (nI i + 2).toNatClampNeg)) rfl rfl (fx_is F rfl) (Nat.le_of_ble_eq_true rfl) (Nat.le_of_ble_eq_true rfl) (by omega) (by omega) (Nat.le_of_ble_eq_true rfl) ?_
  rintro v1 h1 ⟨x9, rfl, F1, C9⟩
  refine e_aload_n aL_law_807 rfl ?_
  refine e_aload_n aL_law_808 rfl ?_
  refine e_iload_n aL_law_809 rfl ?_
  refine e_iconst (v := 1) aL_law_810 (by decide) ?_
  refine e_iadd aL_law_811 ?_
  refine e_ialoadX aL_law_812 (hin 1 (by decide)) ?_
  refine e_aload_n aL_law_813 rfl ?_
  refine e_iload_n aL_law_814 rfl ?_
  refine e_iconst (v := 2) aL_law_815 (by decide) ?_
  refine e_iadd aL_law_816 ?_
  refine e_ialoadX aL_law_817 (hin 2 (by decide)) ?_
  refine e_invv aL_law_818 kL_97 C9 rfl rfl (fx_is F1 rfl) (Nat.le_of_ble_eq_true rfl) (Nat.le_of_ble_eq_true rfl) (by omega) (by omega) (Nat.le_of_ble_eq_true rfl) ?_
  rintro v2 h2 ⟨rfl, I2⟩
  exact e_icmp_eq aL_law_821 (fun _ => e_widen (by omega) (by omega) (k h2 I2)) (fun z => absurd rfl z)
theorem law_20 (X : EX) {nm : String} {c i cells slots : Nat} {h : HP} (I : Inv c h) (hin : ∀ j, j < 6 → vp_in (nI i + nI j) (xN X)) (hc9 : c ≤ 1000) (hc : cells + 39 ≤ 400000) (hs : slots + 377 ≤ 4000000) (k : ∀ h2, Inv (c + 1) h2 → Ev X (mL nm) 40 400000 4000000 QL (cells + 39) (slots + 377) 1524 (LSi i) [] h2) : Ev X (mL nm) 40 400000 4000000 QL cells slots 826 (LSi i) [] h := by
  have F : Fx h := I.F
  refine e_aload_n aL_law_826 rfl ?_
  refine e_aload_n aL_law_827 rfl ?_
  refine e_iload_n aL_law_828 rfl ?_
  refine e_iconst (v := 1) aL_law_829 (by decide) ?_
  refine e_iadd aL_law_830 ?_
  refine e_ialoadX aL_law_831 (hin 1 (by decide)) ?_
  refine e_aload_n aL_law_832 rfl ?_
  refine e_iload_n aL_law_833 rfl ?_
  refine e_iconst (v := 2) aL_law_834 (by decide) ?_
  refine e_iadd aL_law_835 ?_
  refine e_ialoadX aL_law_836 (hin 2 (by decide)) ?_
  refine e_invv aL_law_837 kL_98 (op_least X I (xs X (nI i + 1).toNatClampNeg) (xs X (nI i + 2).toNatClampNeg)) rfl rfl (fx_is F rfl) (Nat.le_of_ble_eq_true rfl) (Nat.le_of_ble_eq_true rfl) (by omega) (by omega) (Nat.le_of_ble_eq_true rfl) ?_
  rintro v1 h1 ⟨x9, rfl, F1, C9⟩
  refine e_aload_n aL_law_840 rfl ?_
  refine e_aload_n aL_law_841 rfl ?_
  refine e_iload_n aL_law_842 rfl ?_
  refine e_iconst (v := 1) aL_law_843 (by decide) ?_
  refine e_iadd aL_law_844 ?_
  refine e_ialoadX aL_law_845 (hin 1 (by decide)) ?_
  refine e_aload_n aL_law_846 rfl ?_
  refine e_iload_n aL_law_847 rfl ?_
  refine e_iconst (v := 2) aL_law_848 (by decide) ?_
  refine e_iadd aL_law_849 ?_
  refine e_ialoadX aL_law_850 (hin 2 (by decide)) ?_
  refine e_invv aL_law_851 kL_101 C9 rfl rfl (fx_is F1 rfl) (Nat.le_of_ble_eq_true rfl) (Nat.le_of_ble_eq_true rfl) (by omega) (by omega) (Nat.le_of_ble_eq_true rfl) ?_
  rintro v2 h2 ⟨rfl, I2⟩
  exact e_icmp_eq aL_law_854 (fun _ => e_widen (by omega) (by omega) (k h2 I2)) (fun z => absurd rfl z)
theorem law_21 (X : EX) {nm : String} {c i cells slots : Nat} {h : HP} (I : Inv c h) (hin : ∀ j, j < 6 → vp_in (nI i + nI j) (xN X)) (hc9 : c ≤ 1000) (hc : cells + 39 ≤ 400000) (hs : slots + 377 ≤ 4000000) (k : ∀ h2, Inv (c + 1) h2 → Ev X (mL nm) 40 400000 4000000 QL (cells + 39) (slots + 377) 1524 (LSi i) [] h2) : Ev X (mL nm) 40 400000 4000000 QL cells slots 859 (LSi i) [] h := by
  have F : Fx h := I.F
  refine e_aload_n aL_law_859 rfl ?_
  refine e_aload_n aL_law_860 rfl ?_
  refine e_iload_n aL_law_861 rfl ?_
  refine e_iconst (v := 1) aL_law_862 (by decide) ?_
  refine e_iadd aL_law_863 ?_
  refine e_ialoadX aL_law_864 (hin 1 (by decide)) ?_
  refine e_aload_n aL_law_865 rfl ?_
  refine e_iload_n aL_law_866 rfl ?_
  refine e_iconst (v := 2) aL_law_867 (by decide) ?_
  refine e_iadd aL_law_868 ?_
  refine e_ialoadX aL_law_869 (hin 2 (by decide)) ?_
  refine e_invv aL_law_870 kL_102 (op_price X I (xs X (nI i + 1).toNatClampNeg) (xs X (nI i + 2).toNatClampNeg)) rfl rfl (fx_is F rfl) (Nat.le_of_ble_eq_true rfl) (Nat.le_of_ble_eq_true rfl) (by omega) (by omega) (Nat.le_of_ble_eq_true rfl) ?_
  rintro v1 h1 ⟨x9, rfl, F1, C9⟩
  refine e_aload_n aL_law_873 rfl ?_
  refine e_aload_n aL_law_874 rfl ?_
  refine e_iload_n aL_law_875 rfl ?_
  refine e_iconst (v := 1) aL_law_876 (by decide) ?_
  refine e_iadd aL_law_877 ?_
  refine e_ialoadX aL_law_878 (hin 1 (by decide)) ?_
  refine e_aload_n aL_law_879 rfl ?_
  refine e_iload_n aL_law_880 rfl ?_
  refine e_iconst (v := 2) aL_law_881 (by decide) ?_
  refine e_iadd aL_law_882 ?_
  refine e_ialoadX aL_law_883 (hin 2 (by decide)) ?_
  refine e_invv aL_law_884 kL_105 C9 rfl rfl (fx_is F1 rfl) (Nat.le_of_ble_eq_true rfl) (Nat.le_of_ble_eq_true rfl) (by omega) (by omega) (Nat.le_of_ble_eq_true rfl) ?_
  rintro v2 h2 ⟨rfl, I2⟩
  exact e_icmp_eq aL_law_887 (fun _ => e_widen (by omega) (by omega) (k h2 I2)) (fun z => absurd rfl z)
theorem law_22 (X : EX) {nm : String} {c i cells slots : Nat} {h : HP} (I : Inv c h) (hin : ∀ j, j < 6 → vp_in (nI i + nI j) (xN X)) (hc9 : c ≤ 1000) (hc : cells + 39 ≤ 400000) (hs : slots + 377 ≤ 4000000) (k : ∀ h2, Inv (c + 1) h2 → Ev X (mL nm) 40 400000 4000000 QL (cells + 39) (slots + 377) 1524 (LSi i) [] h2) : Ev X (mL nm) 40 400000 4000000 QL cells slots 892 (LSi i) [] h := by
  have F : Fx h := I.F
  refine e_aload_n aL_law_892 rfl ?_
  refine e_aload_n aL_law_893 rfl ?_
  refine e_iload_n aL_law_894 rfl ?_
  refine e_iconst (v := 1) aL_law_895 (by decide) ?_
  refine e_iadd aL_law_896 ?_
  refine e_ialoadX aL_law_897 (hin 1 (by decide)) ?_
  refine e_aload_n aL_law_898 rfl ?_
  refine e_iload_n aL_law_899 rfl ?_
  refine e_iconst (v := 2) aL_law_900 (by decide) ?_
  refine e_iadd aL_law_901 ?_
  refine e_ialoadX aL_law_902 (hin 2 (by decide)) ?_
  refine e_invv aL_law_903 kL_106 (op_worth X I (xs X (nI i + 1).toNatClampNeg) (xs X (nI i + 2).toNatClampNeg)) rfl rfl (fx_is F rfl) (Nat.le_of_ble_eq_true rfl) (Nat.le_of_ble_eq_true rfl) (by omega) (by omega) (Nat.le_of_ble_eq_true rfl) ?_
  rintro v1 h1 ⟨x9, rfl, F1, C9⟩
  refine e_aload_n aL_law_906 rfl ?_
  refine e_aload_n aL_law_907 rfl ?_
  refine e_iload_n aL_law_908 rfl ?_
  refine e_iconst (v := 1) aL_law_909 (by decide) ?_
  refine e_iadd aL_law_910 ?_
  refine e_ialoadX aL_law_911 (hin 1 (by decide)) ?_
  refine e_aload_n aL_law_912 rfl ?_
  refine e_iload_n aL_law_913 rfl ?_
  refine e_iconst (v := 2) aL_law_914 (by decide) ?_
  refine e_iadd aL_law_915 ?_
  refine e_ialoadX aL_law_916 (hin 2 (by decide)) ?_
  refine e_invv aL_law_917 kL_109 C9 rfl rfl (fx_is F1 rfl) (Nat.le_of_ble_eq_true rfl) (Nat.le_of_ble_eq_true rfl) (by omega) (by omega) (Nat.le_of_ble_eq_true rfl) ?_
  rintro v2 h2 ⟨rfl, I2⟩
  exact e_icmp_eq aL_law_920 (fun _ => e_widen (by omega) (by omega) (k h2 I2)) (fun z => absurd rfl z)
theorem law_23 (X : EX) {nm : String} {c i cells slots : Nat} {h : HP} (I : Inv c h) (hin : ∀ j, j < 6 → vp_in (nI i + nI j) (xN X)) (hc9 : c ≤ 1000) (hc : cells + 39 ≤ 400000) (hs : slots + 377 ≤ 4000000) (k : ∀ h2, Inv (c + 1) h2 → Ev X (mL nm) 40 400000 4000000 QL (cells + 39) (slots + 377) 1524 (LSi i) [] h2) : Ev X (mL nm) 40 400000 4000000 QL cells slots 925 (LSi i) [] h := by
  have F : Fx h := I.F
  refine e_aload_n aL_law_925 rfl ?_
  refine e_aload_n aL_law_926 rfl ?_
  refine e_iload_n aL_law_927 rfl ?_
  refine e_iconst (v := 1) aL_law_928 (by decide) ?_
  refine e_iadd aL_law_929 ?_
  refine e_ialoadX aL_law_930 (hin 1 (by decide)) ?_
  refine e_invv aL_law_931 kL_110 (op_value X I (xs X (nI i + 1).toNatClampNeg)) rfl rfl (fx_is F rfl) (Nat.le_of_ble_eq_true rfl) (Nat.le_of_ble_eq_true rfl) (by omega) (by omega) (Nat.le_of_ble_eq_true rfl) ?_
  rintro v1 h1 ⟨x9, rfl, F1, C9⟩
  refine e_aload_n aL_law_934 rfl ?_
  refine e_aload_n aL_law_935 rfl ?_
  refine e_iload_n aL_law_936 rfl ?_
  refine e_iconst (v := 1) aL_law_937 (by decide) ?_
  refine e_iadd aL_law_938 ?_
  refine e_ialoadX aL_law_939 (hin 1 (by decide)) ?_
  refine e_invv aL_law_940 kL_114 C9 rfl rfl (fx_is F1 rfl) (Nat.le_of_ble_eq_true rfl) (Nat.le_of_ble_eq_true rfl) (by omega) (by omega) (Nat.le_of_ble_eq_true rfl) ?_
  rintro v2 h2 ⟨rfl, I2⟩
  refine e_lcmp aL_law_943 ?_
  exact e_if_eq aL_law_944 (fun _ => e_widen (by omega) (by omega) (k h2 I2)) (fun z => absurd (lgc x9) z)
theorem law_24 (X : EX) {nm : String} {c i cells slots : Nat} {h : HP} (I : Inv c h) (hin : ∀ j, j < 6 → vp_in (nI i + nI j) (xN X)) (hc9 : c ≤ 1000) (hc : cells + 39 ≤ 400000) (hs : slots + 377 ≤ 4000000) (k : ∀ h2, Inv (c + 1) h2 → Ev X (mL nm) 40 400000 4000000 QL (cells + 39) (slots + 377) 1524 (LSi i) [] h2) : Ev X (mL nm) 40 400000 4000000 QL cells slots 949 (LSi i) [] h := by
  have F : Fx h := I.F
  refine e_aload_n aL_law_949 rfl ?_
  refine e_aload_n aL_law_950 rfl ?_
  refine e_iload_n aL_law_951 rfl ?_
  refine e_iconst (v := 1) aL_law_952 (by decide) ?_
  refine e_iadd aL_law_953 ?_
  refine e_ialoadX aL_law_954 (hin 1 (by decide)) ?_
  refine e_aload_n aL_law_955 rfl ?_
  refine e_iload_n aL_law_956 rfl ?_
  refine e_iconst (v := 2) aL_law_957 (by decide) ?_
  refine e_iadd aL_law_958 ?_
  refine e_ialoadX aL_law_959 (hin 2 (by decide)) ?_
  refine e_invv aL_law_960 kL_115 (op_best X I (xs X (nI i + 1).toNatClampNeg) (xs X (nI i + 2).toNatClampNeg)) rfl rfl (fx_is F rfl) (Nat.le_of_ble_eq_true rfl) (Nat.le_of_ble_eq_true rfl) (by omega) (by omega) (Nat.le_of_ble_eq_true rfl) ?_
  rintro v1 h1 ⟨x9, rfl, F1, C9⟩
  refine e_aload_n aL_law_963 rfl ?_
  refine e_aload_n aL_law_964 rfl ?_
  refine e_iload_n aL_law_965 rfl ?_
  refine e_iconst (v := 1) aL_law_966 (by decide) ?_
  refine e_iadd aL_law_967 ?_
  refine e_ialoadX aL_law_968 (hin 1 (by decide)) ?_
  refine e_aload_n aL_law_969 rfl ?_
  refine e_iload_n aL_law_970 rfl ?_
  refine e_iconst (v := 2) aL_law_971 (by decide) ?_
  refine e_iadd aL_law_972 ?_
  refine e_ialoadX aL_law_973 (hin 2 (by decide)) ?_
  refine e_invv aL_law_974 kL_118 C9 rfl rfl (fx_is F1 rfl) (Nat.le_of_ble_eq_true rfl) (Nat.le_of_ble_eq_true rfl) (by omega) (by omega) (Nat.le_of_ble_eq_true rfl) ?_
  rintro v2 h2 ⟨rfl, I2⟩
  exact e_icmp_eq aL_law_977 (fun _ => e_widen (by omega) (by omega) (k h2 I2)) (fun z => absurd rfl z)
theorem law_25 (X : EX) {nm : String} {c i cells slots : Nat} {h : HP} (I : Inv c h) (hin : ∀ j, j < 6 → vp_in (nI i + nI j) (xN X)) (hc9 : c ≤ 1000) (hc : cells + 39 ≤ 400000) (hs : slots + 377 ≤ 4000000) (k : ∀ h2, Inv (c + 1) h2 → Ev X (mL nm) 40 400000 4000000 QL (cells + 39) (slots + 377) 1524 (LSi i) [] h2) : Ev X (mL nm) 40 400000 4000000 QL cells slots 982 (LSi i) [] h := by
  have F : Fx h := I.F
  refine e_aload_n aL_law_982 rfl ?_
  refine e_aload_n aL_law_983 rfl ?_
  refine e_iload_n aL_law_984 rfl ?_
  refine e_iconst (v := 1) aL_law_985 (by decide) ?_
  refine e_iadd aL_law_986 ?_
  refine e_ialoadX aL_law_987 (hin 1 (by decide)) ?_
  refine e_invv aL_law_988 kL_119 (op_hope X I (xs X (nI i + 1).toNatClampNeg)) rfl rfl (fx_is F rfl) (Nat.le_of_ble_eq_true rfl) (Nat.le_of_ble_eq_true rfl) (by omega) (by omega) (Nat.le_of_ble_eq_true rfl) ?_
  rintro v1 h1 ⟨x9, rfl, F1, C9⟩
  refine e_aload_n aL_law_991 rfl ?_
  refine e_aload_n aL_law_992 rfl ?_
  refine e_iload_n aL_law_993 rfl ?_
  refine e_iconst (v := 1) aL_law_994 (by decide) ?_
  refine e_iadd aL_law_995 ?_
  refine e_ialoadX aL_law_996 (hin 1 (by decide)) ?_
  refine e_invv aL_law_997 kL_122 C9 rfl rfl (fx_is F1 rfl) (Nat.le_of_ble_eq_true rfl) (Nat.le_of_ble_eq_true rfl) (by omega) (by omega) (Nat.le_of_ble_eq_true rfl) ?_
  rintro v2 h2 ⟨rfl, I2⟩
  exact e_icmp_eq aL_law_1000 (fun _ => e_widen (by omega) (by omega) (k h2 I2)) (fun z => absurd rfl z)
theorem law_26 (X : EX) {nm : String} {c i cells slots : Nat} {h : HP} (I : Inv c h) (hin : ∀ j, j < 6 → vp_in (nI i + nI j) (xN X)) (hc9 : c ≤ 1000) (hc : cells + 39 ≤ 400000) (hs : slots + 377 ≤ 4000000) (k : ∀ h2, Inv (c + 1) h2 → Ev X (mL nm) 40 400000 4000000 QL (cells + 39) (slots + 377) 1524 (LSi i) [] h2) : Ev X (mL nm) 40 400000 4000000 QL cells slots 1005 (LSi i) [] h := by
  have F : Fx h := I.F
  refine e_aload_n aL_law_1005 rfl ?_
  refine e_aload_n aL_law_1006 rfl ?_
  refine e_iload_n aL_law_1007 rfl ?_
  refine e_iconst (v := 1) aL_law_1008 (by decide) ?_
  refine e_iadd aL_law_1009 ?_
  refine e_ialoadX aL_law_1010 (hin 1 (by decide)) ?_
  refine e_aload_n aL_law_1011 rfl ?_
  refine e_iload_n aL_law_1012 rfl ?_
  refine e_iconst (v := 2) aL_law_1013 (by decide) ?_
  refine e_iadd aL_law_1014 ?_
  refine e_ialoadX aL_law_1015 (hin 2 (by decide)) ?_
  refine e_invv aL_law_1016 kL_123 (op_rounds X I (xs X (nI i + 1).toNatClampNeg) (xs X (nI i + 2).toNatClampNeg)) rfl rfl (fx_is F rfl) (Nat.le_of_ble_eq_true rfl) (Nat.le_of_ble_eq_true rfl) (by omega) (by omega) (Nat.le_of_ble_eq_true rfl) ?_
  rintro v1 h1 ⟨x9, rfl, F1, C9⟩
  refine e_aload_n aL_law_1019 rfl ?_
  refine e_aload_n aL_law_1020 rfl ?_
  refine e_iload_n aL_law_1021 rfl ?_
  refine e_iconst (v := 1) aL_law_1022 (by decide) ?_
  refine e_iadd aL_law_1023 ?_
  refine e_ialoadX aL_law_1024 (hin 1 (by decide)) ?_
  refine e_aload_n aL_law_1025 rfl ?_
  refine e_iload_n aL_law_1026 rfl ?_
  refine e_iconst (v := 2) aL_law_1027 (by decide) ?_
  refine e_iadd aL_law_1028 ?_
  refine e_ialoadX aL_law_1029 (hin 2 (by decide)) ?_
  refine e_invv aL_law_1030 kL_126 C9 rfl rfl (fx_is F1 rfl) (Nat.le_of_ble_eq_true rfl) (Nat.le_of_ble_eq_true rfl) (by omega) (by omega) (Nat.le_of_ble_eq_true rfl) ?_
  rintro v2 h2 ⟨rfl, I2⟩
  exact e_icmp_eq aL_law_1033 (fun _ => e_widen (by omega) (by omega) (k h2 I2)) (fun z => absurd rfl z)
theorem law_27 (X : EX) {nm : String} {c i cells slots : Nat} {h : HP} (I : Inv c h) (hin : ∀ j, j < 6 → vp_in (nI i + nI j) (xN X)) (hc9 : c ≤ 1000) (hc : cells + 39 ≤ 400000) (hs : slots + 377 ≤ 4000000) (k : ∀ h2, Inv (c + 1) h2 → Ev X (mL nm) 40 400000 4000000 QL (cells + 39) (slots + 377) 1524 (LSi i) [] h2) : Ev X (mL nm) 40 400000 4000000 QL cells slots 1038 (LSi i) [] h := by
  have F : Fx h := I.F
  refine e_aload_n aL_law_1038 rfl ?_
  refine e_aload_n aL_law_1039 rfl ?_
  refine e_iload_n aL_law_1040 rfl ?_
  refine e_iconst (v := 1) aL_law_1041 (by decide) ?_
  refine e_iadd aL_law_1042 ?_
  refine e_ialoadX aL_law_1043 (hin 1 (by decide)) ?_
  refine e_aload_n aL_law_1044 rfl ?_
  refine e_iload_n aL_law_1045 rfl ?_
  refine e_iconst (v := 2) aL_law_1046 (by decide) ?_
  refine e_iadd aL_law_1047 ?_
  refine e_ialoadX aL_law_1048 (hin 2 (by decide)) ?_
  refine e_invv aL_law_1049 kL_127 (op_lays X I (xs X (nI i + 1).toNatClampNeg) (xs X (nI i + 2).toNatClampNeg)) rfl rfl (fx_is F rfl) (Nat.le_of_ble_eq_true rfl) (Nat.le_of_ble_eq_true rfl) (by omega) (by omega) (Nat.le_of_ble_eq_true rfl) ?_
  rintro v1 h1 ⟨x9, rfl, F1, C9⟩
  refine e_aload_n aL_law_1052 rfl ?_
  refine e_aload_n aL_law_1053 rfl ?_
  refine e_iload_n aL_law_1054 rfl ?_
  refine e_iconst (v := 1) aL_law_1055 (by decide) ?_
  refine e_iadd aL_law_1056 ?_
  refine e_ialoadX aL_law_1057 (hin 1 (by decide)) ?_
  refine e_aload_n aL_law_1058 rfl ?_
  refine e_iload_n aL_law_1059 rfl ?_
  refine e_iconst (v := 2) aL_law_1060 (by decide) ?_
  refine e_iadd aL_law_1061 ?_
  refine e_ialoadX aL_law_1062 (hin 2 (by decide)) ?_
  refine e_invv aL_law_1063 kL_130 C9 rfl rfl (fx_is F1 rfl) (Nat.le_of_ble_eq_true rfl) (Nat.le_of_ble_eq_true rfl) (by omega) (by omega) (Nat.le_of_ble_eq_true rfl) ?_
  rintro v2 h2 ⟨rfl, I2⟩
  exact e_icmp_eq aL_law_1066 (fun _ => e_widen (by omega) (by omega) (k h2 I2)) (fun z => absurd rfl z)
theorem law_28 (X : EX) {nm : String} {c i cells slots : Nat} {h : HP} (I : Inv c h) (hin : ∀ j, j < 6 → vp_in (nI i + nI j) (xN X)) (hc9 : c ≤ 1000) (hc : cells + 39 ≤ 400000) (hs : slots + 377 ≤ 4000000) (k : ∀ h2, Inv (c + 1) h2 → Ev X (mL nm) 40 400000 4000000 QL (cells + 39) (slots + 377) 1524 (LSi i) [] h2) : Ev X (mL nm) 40 400000 4000000 QL cells slots 1071 (LSi i) [] h := by
  have F : Fx h := I.F
  refine e_aload_n aL_law_1071 rfl ?_
  refine e_aload_n aL_law_1072 rfl ?_
  refine e_iload_n aL_law_1073 rfl ?_
  refine e_iconst (v := 1) aL_law_1074 (by decide) ?_
  refine e_iadd aL_law_1075 ?_
  refine e_ialoadX aL_law_1076 (hin 1 (by decide)) ?_
  refine e_aload_n aL_law_1077 rfl ?_
  refine e_iload_n aL_law_1078 rfl ?_
  refine e_iconst (v := 2) aL_law_1079 (by decide) ?_
  refine e_iadd aL_law_1080 ?_
  refine e_ialoadX aL_law_1081 (hin 2 (by decide)) ?_
  refine e_invv aL_law_1082 kL_131 (op_judge X I (xs X (nI i + 1).toNatClampNeg) (xs X (nI i + 2).toNatClampNeg)) rfl rfl (fx_is F rfl) (Nat.le_of_ble_eq_true rfl) (Nat.le_of_ble_eq_true rfl) (by omega) (by omega) (Nat.le_of_ble_eq_true rfl) ?_
  rintro v1 h1 ⟨x9, rfl, F1, C9⟩
  refine e_aload_n aL_law_1085 rfl ?_
  refine e_aload_n aL_law_1086 rfl ?_
  refine e_iload_n aL_law_1087 rfl ?_
  refine e_iconst (v := 1) aL_law_1088 (by decide) ?_
  refine e_iadd aL_law_1089 ?_
  refine e_ialoadX aL_law_1090 (hin 1 (by decide)) ?_
  refine e_aload_n aL_law_1091 rfl ?_
  refine e_iload_n aL_law_1092 rfl ?_
  refine e_iconst (v := 2) aL_law_1093 (by decide) ?_
  refine e_iadd aL_law_1094 ?_
  refine e_ialoadX aL_law_1095 (hin 2 (by decide)) ?_
  refine e_invv aL_law_1096 kL_134 C9 rfl rfl (fx_is F1 rfl) (Nat.le_of_ble_eq_true rfl) (Nat.le_of_ble_eq_true rfl) (by omega) (by omega) (Nat.le_of_ble_eq_true rfl) ?_
  rintro v2 h2 ⟨rfl, I2⟩
  exact e_icmp_eq aL_law_1099 (fun _ => e_widen (by omega) (by omega) (k h2 I2)) (fun z => absurd rfl z)
theorem law_29 (X : EX) {nm : String} {c i cells slots : Nat} {h : HP} (I : Inv c h) (hin : ∀ j, j < 6 → vp_in (nI i + nI j) (xN X)) (hc9 : c ≤ 1000) (hc : cells + 39 ≤ 400000) (hs : slots + 377 ≤ 4000000) (k : ∀ h2, Inv (c + 1) h2 → Ev X (mL nm) 40 400000 4000000 QL (cells + 39) (slots + 377) 1524 (LSi i) [] h2) : Ev X (mL nm) 40 400000 4000000 QL cells slots 1104 (LSi i) [] h := by
  have F : Fx h := I.F
  refine e_aload_n aL_law_1104 rfl ?_
  refine e_aload_n aL_law_1105 rfl ?_
  refine e_iload_n aL_law_1106 rfl ?_
  refine e_iconst (v := 1) aL_law_1107 (by decide) ?_
  refine e_iadd aL_law_1108 ?_
  refine e_ialoadX aL_law_1109 (hin 1 (by decide)) ?_
  refine e_aload_n aL_law_1110 rfl ?_
  refine e_iload_n aL_law_1111 rfl ?_
  refine e_iconst (v := 2) aL_law_1112 (by decide) ?_
  refine e_iadd aL_law_1113 ?_
  refine e_ialoadX aL_law_1114 (hin 2 (by decide)) ?_
  refine e_invv aL_law_1115 kL_135 (op_feed X I (xs X (nI i + 1).toNatClampNeg) (xs X (nI i + 2).toNatClampNeg)) rfl rfl (fx_is F rfl) (Nat.le_of_ble_eq_true rfl) (Nat.le_of_ble_eq_true rfl) (by omega) (by omega) (Nat.le_of_ble_eq_true rfl) ?_
  rintro v1 h1 ⟨x9, rfl, F1, C9⟩
  refine e_aload_n aL_law_1118 rfl ?_
  refine e_aload_n aL_law_1119 rfl ?_
  refine e_iload_n aL_law_1120 rfl ?_
  refine e_iconst (v := 1) aL_law_1121 (by decide) ?_
  refine e_iadd aL_law_1122 ?_
  refine e_ialoadX aL_law_1123 (hin 1 (by decide)) ?_
  refine e_aload_n aL_law_1124 rfl ?_
  refine e_iload_n aL_law_1125 rfl ?_
  refine e_iconst (v := 2) aL_law_1126 (by decide) ?_
  refine e_iadd aL_law_1127 ?_
  refine e_ialoadX aL_law_1128 (hin 2 (by decide)) ?_
  refine e_invv aL_law_1129 kL_138 C9 rfl rfl (fx_is F1 rfl) (Nat.le_of_ble_eq_true rfl) (Nat.le_of_ble_eq_true rfl) (by omega) (by omega) (Nat.le_of_ble_eq_true rfl) ?_
  rintro v2 h2 ⟨rfl, I2⟩
  exact e_icmp_eq aL_law_1132 (fun _ => e_widen (by omega) (by omega) (k h2 I2)) (fun z => absurd rfl z)
theorem law_30 (X : EX) {nm : String} {c i cells slots : Nat} {h : HP} (I : Inv c h) (hin : ∀ j, j < 6 → vp_in (nI i + nI j) (xN X)) (hc9 : c ≤ 1000) (hc : cells + 39 ≤ 400000) (hs : slots + 377 ≤ 4000000) (k : ∀ h2, Inv (c + 1) h2 → Ev X (mL nm) 40 400000 4000000 QL (cells + 39) (slots + 377) 1524 (LSi i) [] h2) : Ev X (mL nm) 40 400000 4000000 QL cells slots 1137 (LSi i) [] h := by
  have F : Fx h := I.F
  refine e_aload_n aL_law_1137 rfl ?_
  refine e_invv aL_law_1138 kL_139 (op_wipe X I ) rfl rfl (fx_is F rfl) (Nat.le_of_ble_eq_true rfl) (Nat.le_of_ble_eq_true rfl) (by omega) (by omega) (Nat.le_of_ble_eq_true rfl) ?_
  rintro v1 h1 ⟨x9, rfl, F1, C9⟩
  refine e_aload_n aL_law_1141 rfl ?_
  refine e_invv aL_law_1142 kL_142 C9 rfl rfl (fx_is F1 rfl) (Nat.le_of_ble_eq_true rfl) (Nat.le_of_ble_eq_true rfl) (by omega) (by omega) (Nat.le_of_ble_eq_true rfl) ?_
  rintro v2 h2 ⟨rfl, I2⟩
  exact e_icmp_eq aL_law_1145 (fun _ => e_widen (by omega) (by omega) (k h2 I2)) (fun z => absurd rfl z)
theorem law_31 (X : EX) {nm : String} {c i cells slots : Nat} {h : HP} (I : Inv c h) (hin : ∀ j, j < 6 → vp_in (nI i + nI j) (xN X)) (hc9 : c ≤ 1000) (hc : cells + 39 ≤ 400000) (hs : slots + 377 ≤ 4000000) (k : ∀ h2, Inv (c + 1) h2 → Ev X (mL nm) 40 400000 4000000 QL (cells + 39) (slots + 377) 1524 (LSi i) [] h2) : Ev X (mL nm) 40 400000 4000000 QL cells slots 1150 (LSi i) [] h := by
  have F : Fx h := I.F
  refine e_aload_n aL_law_1150 rfl ?_
  refine e_aload_n aL_law_1151 rfl ?_
  refine e_iload_n aL_law_1152 rfl ?_
  refine e_iconst (v := 1) aL_law_1153 (by decide) ?_
  refine e_iadd aL_law_1154 ?_
  refine e_ialoadX aL_law_1155 (hin 1 (by decide)) ?_
  refine e_aload_n aL_law_1156 rfl ?_
  refine e_iload_n aL_law_1157 rfl ?_
  refine e_iconst (v := 2) aL_law_1158 (by decide) ?_
  refine e_iadd aL_law_1159 ?_
  refine e_ialoadX aL_law_1160 (hin 2 (by decide)) ?_
  refine e_aload_n aL_law_1161 rfl ?_
  refine e_iload_n aL_law_1162 rfl ?_
  refine e_iconst (v := 3) aL_law_1163 (by decide) ?_
  refine e_iadd aL_law_1164 ?_
  refine e_ialoadX aL_law_1165 (hin 3 (by decide)) ?_
  refine e_invv aL_law_1166 kL_143 (op_sheet X I (xs X (nI i + 1).toNatClampNeg) (xs X (nI i + 2).toNatClampNeg) (xs X (nI i + 3).toNatClampNeg)) rfl rfl (fx_is F rfl) (Nat.le_of_ble_eq_true rfl) (Nat.le_of_ble_eq_true rfl) (by omega) (by omega) (Nat.le_of_ble_eq_true rfl) ?_
  rintro v1 h1 ⟨x9, rfl, F1, C9⟩
  refine e_aload_n aL_law_1169 rfl ?_
  refine e_aload_n aL_law_1170 rfl ?_
  refine e_iload_n aL_law_1171 rfl ?_
  refine e_iconst (v := 1) aL_law_1172 (by decide) ?_
  refine e_iadd aL_law_1173 ?_
  refine e_ialoadX aL_law_1174 (hin 1 (by decide)) ?_
  refine e_aload_n aL_law_1175 rfl ?_
  refine e_iload_n aL_law_1176 rfl ?_
  refine e_iconst (v := 2) aL_law_1177 (by decide) ?_
  refine e_iadd aL_law_1178 ?_
  refine e_ialoadX aL_law_1179 (hin 2 (by decide)) ?_
  refine e_aload_n aL_law_1180 rfl ?_
  refine e_iload_n aL_law_1181 rfl ?_
  refine e_iconst (v := 3) aL_law_1182 (by decide) ?_
  refine e_iadd aL_law_1183 ?_
  refine e_ialoadX aL_law_1184 (hin 3 (by decide)) ?_
  refine e_invv aL_law_1185 kL_146 C9 rfl rfl (fx_is F1 rfl) (Nat.le_of_ble_eq_true rfl) (Nat.le_of_ble_eq_true rfl) (by omega) (by omega) (Nat.le_of_ble_eq_true rfl) ?_
  rintro v2 h2 ⟨rfl, I2⟩
  exact e_icmp_eq aL_law_1188 (fun _ => e_widen (by omega) (by omega) (k h2 I2)) (fun z => absurd rfl z)
theorem law_32 (X : EX) {nm : String} {c i cells slots : Nat} {h : HP} (I : Inv c h) (hin : ∀ j, j < 6 → vp_in (nI i + nI j) (xN X)) (hc9 : c ≤ 1000) (hc : cells + 39 ≤ 400000) (hs : slots + 377 ≤ 4000000) (k : ∀ h2, Inv (c + 1) h2 → Ev X (mL nm) 40 400000 4000000 QL (cells + 39) (slots + 377) 1524 (LSi i) [] h2) : Ev X (mL nm) 40 400000 4000000 QL cells slots 1193 (LSi i) [] h := by
  have F : Fx h := I.F
  refine e_aload_n aL_law_1193 rfl ?_
  refine e_aload_n aL_law_1194 rfl ?_
  refine e_iload_n aL_law_1195 rfl ?_
  refine e_iconst (v := 1) aL_law_1196 (by decide) ?_
  refine e_iadd aL_law_1197 ?_
  refine e_ialoadX aL_law_1198 (hin 1 (by decide)) ?_
  refine e_aload_n aL_law_1199 rfl ?_
  refine e_iload_n aL_law_1200 rfl ?_
  refine e_iconst (v := 2) aL_law_1201 (by decide) ?_
  refine e_iadd aL_law_1202 ?_
  refine e_ialoadX aL_law_1203 (hin 2 (by decide)) ?_
  refine e_aload_n aL_law_1204 rfl ?_
  refine e_iload_n aL_law_1205 rfl ?_
  refine e_iconst (v := 3) aL_law_1206 (by decide) ?_
  refine e_iadd aL_law_1207 ?_
  refine e_ialoadX aL_law_1208 (hin 3 (by decide)) ?_
  refine e_i2l aL_law_1209 ?_
  refine e_bipush (v := 32) aL_law_1210 (by decide) ?_
  refine e_lshl aL_law_1212 ?_
  refine e_aload_n aL_law_1213 rfl ?_
  refine e_iload_n aL_law_1214 rfl ?_
  refine e_iconst (v := 4) aL_law_1215 (by decide) ?_
  refine e_iadd aL_law_1216 ?_
  refine e_ialoadX aL_law_1217 (hin 4 (by decide)) ?_
  refine e_i2l aL_law_1218 ?_
  refine e_ldc2 aL_law_1219 lL_147 ?_
  refine e_land aL_law_1222 ?_
  refine e_lor aL_law_1223 ?_
  refine e_invv aL_law_1224 kL_149 (op_write X I (xs X (nI i + 1).toNatClampNeg) (xs X (nI i + 2).toNatClampNeg) (((xs X (nI i + 3).toNatClampNeg).toInt64 <<< ((32 : Int32).toInt64 &&& 63)) ||| ((xs X (nI i + 4).toNatClampNeg).toInt64 &&& 4294967295))) rfl rfl (fx_is F rfl) (Nat.le_of_ble_eq_true rfl) (Nat.le_of_ble_eq_true rfl) (by omega) (by omega) (Nat.le_of_ble_eq_true rfl) ?_
  rintro v1 h1 ⟨x9, rfl, F1, C9⟩
  refine e_aload_n aL_law_1227 rfl ?_
  refine e_aload_n aL_law_1228 rfl ?_
  refine e_iload_n aL_law_1229 rfl ?_
  refine e_iconst (v := 1) aL_law_1230 (by decide) ?_
  refine e_iadd aL_law_1231 ?_
  refine e_ialoadX aL_law_1232 (hin 1 (by decide)) ?_
  refine e_aload_n aL_law_1233 rfl ?_
  refine e_iload_n aL_law_1234 rfl ?_
  refine e_iconst (v := 2) aL_law_1235 (by decide) ?_
  refine e_iadd aL_law_1236 ?_
  refine e_ialoadX aL_law_1237 (hin 2 (by decide)) ?_
  refine e_aload_n aL_law_1238 rfl ?_
  refine e_iload_n aL_law_1239 rfl ?_
  refine e_iconst (v := 3) aL_law_1240 (by decide) ?_
  refine e_iadd aL_law_1241 ?_
  refine e_ialoadX aL_law_1242 (hin 3 (by decide)) ?_
  refine e_i2l aL_law_1243 ?_
  refine e_bipush (v := 32) aL_law_1244 (by decide) ?_
  refine e_lshl aL_law_1246 ?_
  refine e_aload_n aL_law_1247 rfl ?_
  refine e_iload_n aL_law_1248 rfl ?_
  refine e_iconst (v := 4) aL_law_1249 (by decide) ?_
  refine e_iadd aL_law_1250 ?_
  refine e_ialoadX aL_law_1251 (hin 4 (by decide)) ?_
  refine e_i2l aL_law_1252 ?_
  refine e_ldc2 aL_law_1253 lL_147 ?_
  refine e_land aL_law_1256 ?_
  refine e_lor aL_law_1257 ?_
  refine e_invv aL_law_1258 kL_153 C9 rfl rfl (fx_is F1 rfl) (Nat.le_of_ble_eq_true rfl) (Nat.le_of_ble_eq_true rfl) (by omega) (by omega) (Nat.le_of_ble_eq_true rfl) ?_
  rintro v2 h2 ⟨rfl, I2⟩
  exact e_icmp_eq aL_law_1261 (fun _ => e_widen (by omega) (by omega) (k h2 I2)) (fun z => absurd rfl z)
theorem law_33 (X : EX) {nm : String} {c i cells slots : Nat} {h : HP} (I : Inv c h) (hin : ∀ j, j < 6 → vp_in (nI i + nI j) (xN X)) (hc9 : c ≤ 1000) (hc : cells + 39 ≤ 400000) (hs : slots + 377 ≤ 4000000) (k : ∀ h2, Inv (c + 1) h2 → Ev X (mL nm) 40 400000 4000000 QL (cells + 39) (slots + 377) 1524 (LSi i) [] h2) : Ev X (mL nm) 40 400000 4000000 QL cells slots 1266 (LSi i) [] h := by
  have F : Fx h := I.F
  refine e_aload_n aL_law_1266 rfl ?_
  refine e_aload_n aL_law_1267 rfl ?_
  refine e_iload_n aL_law_1268 rfl ?_
  refine e_iconst (v := 1) aL_law_1269 (by decide) ?_
  refine e_iadd aL_law_1270 ?_
  refine e_ialoadX aL_law_1271 (hin 1 (by decide)) ?_
  refine e_aload_n aL_law_1272 rfl ?_
  refine e_iload_n aL_law_1273 rfl ?_
  refine e_iconst (v := 2) aL_law_1274 (by decide) ?_
  refine e_iadd aL_law_1275 ?_
  refine e_ialoadX aL_law_1276 (hin 2 (by decide)) ?_
  refine e_invv aL_law_1277 kL_154 (op_item X I (xs X (nI i + 1).toNatClampNeg) (xs X (nI i + 2).toNatClampNeg)) rfl rfl (fx_is F rfl) (Nat.le_of_ble_eq_true rfl) (Nat.le_of_ble_eq_true rfl) (by omega) (by omega) (Nat.le_of_ble_eq_true rfl) ?_
  rintro v1 h1 ⟨x9, rfl, F1, C9⟩
  refine e_aload_n aL_law_1280 rfl ?_
  refine e_aload_n aL_law_1281 rfl ?_
  refine e_iload_n aL_law_1282 rfl ?_
  refine e_iconst (v := 1) aL_law_1283 (by decide) ?_
  refine e_iadd aL_law_1284 ?_
  refine e_ialoadX aL_law_1285 (hin 1 (by decide)) ?_
  refine e_aload_n aL_law_1286 rfl ?_
  refine e_iload_n aL_law_1287 rfl ?_
  refine e_iconst (v := 2) aL_law_1288 (by decide) ?_
  refine e_iadd aL_law_1289 ?_
  refine e_ialoadX aL_law_1290 (hin 2 (by decide)) ?_
  refine e_invv aL_law_1291 kL_158 C9 rfl rfl (fx_is F1 rfl) (Nat.le_of_ble_eq_true rfl) (Nat.le_of_ble_eq_true rfl) (by omega) (by omega) (Nat.le_of_ble_eq_true rfl) ?_
  rintro v2 h2 ⟨rfl, I2⟩
  refine e_lcmp aL_law_1294 ?_
  exact e_if_eq aL_law_1295 (fun _ => e_widen (by omega) (by omega) (k h2 I2)) (fun z => absurd (lgc x9) z)
theorem law_34 (X : EX) {nm : String} {c i cells slots : Nat} {h : HP} (I : Inv c h) (hin : ∀ j, j < 6 → vp_in (nI i + nI j) (xN X)) (hc9 : c ≤ 1000) (hc : cells + 39 ≤ 400000) (hs : slots + 377 ≤ 4000000) (k : ∀ h2, Inv (c + 1) h2 → Ev X (mL nm) 40 400000 4000000 QL (cells + 39) (slots + 377) 1524 (LSi i) [] h2) : Ev X (mL nm) 40 400000 4000000 QL cells slots 1300 (LSi i) [] h := by
  have F : Fx h := I.F
  refine e_aload_n aL_law_1300 rfl ?_
  refine e_aload_n aL_law_1301 rfl ?_
  refine e_iload_n aL_law_1302 rfl ?_
  refine e_iconst (v := 1) aL_law_1303 (by decide) ?_
  refine e_iadd aL_law_1304 ?_
  refine e_ialoadX aL_law_1305 (hin 1 (by decide)) ?_
  refine e_aload_n aL_law_1306 rfl ?_
  refine e_iload_n aL_law_1307 rfl ?_
  refine e_iconst (v := 2) aL_law_1308 (by decide) ?_
  refine e_iadd aL_law_1309 ?_
  refine e_ialoadX aL_law_1310 (hin 2 (by decide)) ?_
  refine e_aload_n aL_law_1311 rfl ?_
  refine e_iload_n aL_law_1312 rfl ?_
  refine e_iconst (v := 3) aL_law_1313 (by decide) ?_
  refine e_iadd aL_law_1314 ?_
  refine e_ialoadX aL_law_1315 (hin 3 (by decide)) ?_
  refine e_aload_n aL_law_1316 rfl ?_
  refine e_iload_n aL_law_1317 rfl ?_
  refine e_iconst (v := 4) aL_law_1318 (by decide) ?_
  refine e_iadd aL_law_1319 ?_
  refine e_ialoadX aL_law_1320 (hin 4 (by decide)) ?_
  refine e_aload_n aL_law_1321 rfl ?_
  refine e_iload_n aL_law_1322 rfl ?_
  refine e_iconst (v := 5) aL_law_1323 (by decide) ?_
  refine e_iadd aL_law_1324 ?_
  refine e_ialoadX aL_law_1325 (hin 5 (by decide)) ?_
  refine e_invv aL_law_1326 kL_159 (op_copy X I (xs X (nI i + 1).toNatClampNeg) (xs X (nI i + 2).toNatClampNeg) (xs X (nI i + 3).toNatClampNeg) (xs X (nI i + 4).toNatClampNeg) (xs X (nI i + 5).toNatClampNeg)) rfl rfl (fx_is F rfl) (Nat.le_of_ble_eq_true rfl) (Nat.le_of_ble_eq_true rfl) (by omega) (by omega) (Nat.le_of_ble_eq_true rfl) ?_
  rintro v1 h1 ⟨x9, rfl, F1, C9⟩
  refine e_aload_n aL_law_1329 rfl ?_
  refine e_aload_n aL_law_1330 rfl ?_
  refine e_iload_n aL_law_1331 rfl ?_
  refine e_iconst (v := 1) aL_law_1332 (by decide) ?_
  refine e_iadd aL_law_1333 ?_
  refine e_ialoadX aL_law_1334 (hin 1 (by decide)) ?_
  refine e_aload_n aL_law_1335 rfl ?_
  refine e_iload_n aL_law_1336 rfl ?_
  refine e_iconst (v := 2) aL_law_1337 (by decide) ?_
  refine e_iadd aL_law_1338 ?_
  refine e_ialoadX aL_law_1339 (hin 2 (by decide)) ?_
  refine e_aload_n aL_law_1340 rfl ?_
  refine e_iload_n aL_law_1341 rfl ?_
  refine e_iconst (v := 3) aL_law_1342 (by decide) ?_
  refine e_iadd aL_law_1343 ?_
  refine e_ialoadX aL_law_1344 (hin 3 (by decide)) ?_
  refine e_aload_n aL_law_1345 rfl ?_
  refine e_iload_n aL_law_1346 rfl ?_
  refine e_iconst (v := 4) aL_law_1347 (by decide) ?_
  refine e_iadd aL_law_1348 ?_
  refine e_ialoadX aL_law_1349 (hin 4 (by decide)) ?_
  refine e_aload_n aL_law_1350 rfl ?_
  refine e_iload_n aL_law_1351 rfl ?_
  refine e_iconst (v := 5) aL_law_1352 (by decide) ?_
  refine e_iadd aL_law_1353 ?_
  refine e_ialoadX aL_law_1354 (hin 5 (by decide)) ?_
  refine e_invv aL_law_1355 kL_162 C9 rfl rfl (fx_is F1 rfl) (Nat.le_of_ble_eq_true rfl) (Nat.le_of_ble_eq_true rfl) (by omega) (by omega) (Nat.le_of_ble_eq_true rfl) ?_
  rintro v2 h2 ⟨rfl, I2⟩
  exact e_icmp_eq aL_law_1358 (fun _ => e_widen (by omega) (by omega) (k h2 I2)) (fun z => absurd rfl z)
theorem law_35 (X : EX) {nm : String} {c i cells slots : Nat} {h : HP} (I : Inv c h) (hin : ∀ j, j < 6 → vp_in (nI i + nI j) (xN X)) (hc9 : c ≤ 1000) (hc : cells + 39 ≤ 400000) (hs : slots + 377 ≤ 4000000) (k : ∀ h2, Inv (c + 1) h2 → Ev X (mL nm) 40 400000 4000000 QL (cells + 39) (slots + 377) 1524 (LSi i) [] h2) : Ev X (mL nm) 40 400000 4000000 QL cells slots 1363 (LSi i) [] h := by
  have F : Fx h := I.F
  refine e_aload_n aL_law_1363 rfl ?_
  refine e_aload_n aL_law_1364 rfl ?_
  refine e_iload_n aL_law_1365 rfl ?_
  refine e_iconst (v := 1) aL_law_1366 (by decide) ?_
  refine e_iadd aL_law_1367 ?_
  refine e_ialoadX aL_law_1368 (hin 1 (by decide)) ?_
  refine e_aload_n aL_law_1369 rfl ?_
  refine e_iload_n aL_law_1370 rfl ?_
  refine e_iconst (v := 2) aL_law_1371 (by decide) ?_
  refine e_iadd aL_law_1372 ?_
  refine e_ialoadX aL_law_1373 (hin 2 (by decide)) ?_
  refine e_invv aL_law_1374 kL_163 (op_hold X I (xs X (nI i + 1).toNatClampNeg) (xs X (nI i + 2).toNatClampNeg)) rfl rfl (fx_is F rfl) (Nat.le_of_ble_eq_true rfl) (Nat.le_of_ble_eq_true rfl) (by omega) (by omega) (Nat.le_of_ble_eq_true rfl) ?_
  rintro v1 h1 ⟨x9, rfl, F1, C9⟩
  refine e_aload_n aL_law_1377 rfl ?_
  refine e_aload_n aL_law_1378 rfl ?_
  refine e_iload_n aL_law_1379 rfl ?_
  refine e_iconst (v := 1) aL_law_1380 (by decide) ?_
  refine e_iadd aL_law_1381 ?_
  refine e_ialoadX aL_law_1382 (hin 1 (by decide)) ?_
  refine e_aload_n aL_law_1383 rfl ?_
  refine e_iload_n aL_law_1384 rfl ?_
  refine e_iconst (v := 2) aL_law_1385 (by decide) ?_
  refine e_iadd aL_law_1386 ?_
  refine e_ialoadX aL_law_1387 (hin 2 (by decide)) ?_
  refine e_invv aL_law_1388 kL_166 C9 rfl rfl (fx_is F1 rfl) (Nat.le_of_ble_eq_true rfl) (Nat.le_of_ble_eq_true rfl) (by omega) (by omega) (Nat.le_of_ble_eq_true rfl) ?_
  rintro v2 h2 ⟨rfl, I2⟩
  exact e_icmp_eq aL_law_1391 (fun _ => e_widen (by omega) (by omega) (k h2 I2)) (fun z => absurd rfl z)
theorem law_36 (X : EX) {nm : String} {c i cells slots : Nat} {h : HP} (I : Inv c h) (hin : ∀ j, j < 6 → vp_in (nI i + nI j) (xN X)) (hc9 : c ≤ 1000) (hc : cells + 39 ≤ 400000) (hs : slots + 377 ≤ 4000000) (k : ∀ h2, Inv (c + 1) h2 → Ev X (mL nm) 40 400000 4000000 QL (cells + 39) (slots + 377) 1524 (LSi i) [] h2) : Ev X (mL nm) 40 400000 4000000 QL cells slots 1396 (LSi i) [] h := by
  have F : Fx h := I.F
  refine e_aload_n aL_law_1396 rfl ?_
  refine e_aload_n aL_law_1397 rfl ?_
  refine e_iload_n aL_law_1398 rfl ?_
  refine e_iconst (v := 1) aL_law_1399 (by decide) ?_
  refine e_iadd aL_law_1400 ?_
  refine e_ialoadX aL_law_1401 (hin 1 (by decide)) ?_
  refine e_aload_n aL_law_1402 rfl ?_
  refine e_iload_n aL_law_1403 rfl ?_
  refine e_iconst (v := 2) aL_law_1404 (by decide) ?_
  refine e_iadd aL_law_1405 ?_
  refine e_ialoadX aL_law_1406 (hin 2 (by decide)) ?_
  refine e_invv aL_law_1407 kL_167 (op_taken X I hc9 (xs X (nI i + 1).toNatClampNeg) (xs X (nI i + 2).toNatClampNeg)) rfl rfl (fx_is F rfl) (Nat.le_of_ble_eq_true rfl) (Nat.le_of_ble_eq_true rfl) (by omega) (by omega) (Nat.le_of_ble_eq_true rfl) ?_
  rintro v1 h1 ⟨x9, rfl, F1, C9⟩
  refine e_aload_n aL_law_1410 rfl ?_
  refine e_aload_n aL_law_1411 rfl ?_
  refine e_iload_n aL_law_1412 rfl ?_
  refine e_iconst (v := 1) aL_law_1413 (by decide) ?_
  refine e_iadd aL_law_1414 ?_
  refine e_ialoadX aL_law_1415 (hin 1 (by decide)) ?_
  refine e_aload_n aL_law_1416 rfl ?_
  refine e_iload_n aL_law_1417 rfl ?_
  refine e_iconst (v := 2) aL_law_1418 (by decide) ?_
  refine e_iadd aL_law_1419 ?_
  refine e_ialoadX aL_law_1420 (hin 2 (by decide)) ?_
  refine e_invv aL_law_1421 kL_170 C9 rfl rfl (fx_is F1 rfl) (Nat.le_of_ble_eq_true rfl) (Nat.le_of_ble_eq_true rfl) (by omega) (by omega) (Nat.le_of_ble_eq_true rfl) ?_
  rintro v2 h2 ⟨rfl, I2⟩
  exact e_icmp_eq aL_law_1424 (fun _ => e_widen (by omega) (by omega) (k h2 I2)) (fun z => absurd rfl z)
theorem law_37 (X : EX) {nm : String} {c i cells slots : Nat} {h : HP} (I : Inv c h) (hin : ∀ j, j < 6 → vp_in (nI i + nI j) (xN X)) (hc9 : c ≤ 1000) (hc : cells + 39 ≤ 400000) (hs : slots + 377 ≤ 4000000) (k : ∀ h2, Inv (c + 1) h2 → Ev X (mL nm) 40 400000 4000000 QL (cells + 39) (slots + 377) 1524 (LSi i) [] h2) : Ev X (mL nm) 40 400000 4000000 QL cells slots 1429 (LSi i) [] h := by
  have F : Fx h := I.F
  refine e_aload_n aL_law_1429 rfl ?_
  refine e_invv aL_law_1430 kL_171 (op_image X I ) rfl rfl (fx_is F rfl) (Nat.le_of_ble_eq_true rfl) (Nat.le_of_ble_eq_true rfl) (by omega) (by omega) (Nat.le_of_ble_eq_true rfl) ?_
  rintro v1 h1 ⟨x9, rfl, F1, C9⟩
  refine e_aload_n aL_law_1433 rfl ?_
  refine e_invv aL_law_1434 kL_174 C9 rfl rfl (fx_is F1 rfl) (Nat.le_of_ble_eq_true rfl) (Nat.le_of_ble_eq_true rfl) (by omega) (by omega) (Nat.le_of_ble_eq_true rfl) ?_
  rintro v2 h2 ⟨rfl, I2⟩
  exact e_icmp_eq aL_law_1437 (fun _ => e_widen (by omega) (by omega) (k h2 I2)) (fun z => absurd rfl z)
theorem law_38 (X : EX) {nm : String} {c i cells slots : Nat} {h : HP} (I : Inv c h) (hin : ∀ j, j < 6 → vp_in (nI i + nI j) (xN X)) (hc9 : c ≤ 1000) (hc : cells + 39 ≤ 400000) (hs : slots + 377 ≤ 4000000) (k : ∀ h2, Inv (c + 1) h2 → Ev X (mL nm) 40 400000 4000000 QL (cells + 39) (slots + 377) 1524 (LSi i) [] h2) : Ev X (mL nm) 40 400000 4000000 QL cells slots 1442 (LSi i) [] h := by
  have F : Fx h := I.F
  refine e_aload_n aL_law_1442 rfl ?_
  refine e_invv aL_law_1443 kL_175 (op_back X I ) rfl rfl (fx_is F rfl) (Nat.le_of_ble_eq_true rfl) (Nat.le_of_ble_eq_true rfl) (by omega) (by omega) (Nat.le_of_ble_eq_true rfl) ?_
  rintro v1 h1 ⟨x9, rfl, F1, C9⟩
  refine e_aload_n aL_law_1446 rfl ?_
  refine e_invv aL_law_1447 kL_178 C9 rfl rfl (fx_is F1 rfl) (Nat.le_of_ble_eq_true rfl) (Nat.le_of_ble_eq_true rfl) (by omega) (by omega) (Nat.le_of_ble_eq_true rfl) ?_
  rintro v2 h2 ⟨rfl, I2⟩
  exact e_icmp_eq aL_law_1450 (fun _ => e_widen (by omega) (by omega) (k h2 I2)) (fun z => absurd rfl z)
theorem law_39 (X : EX) {nm : String} {c i cells slots : Nat} {h : HP} (I : Inv c h) (hin : ∀ j, j < 6 → vp_in (nI i + nI j) (xN X)) (hc9 : c ≤ 1000) (hc : cells + 39 ≤ 400000) (hs : slots + 377 ≤ 4000000) (k : ∀ h2, Inv (c + 1) h2 → Ev X (mL nm) 40 400000 4000000 QL (cells + 39) (slots + 377) 1524 (LSi i) [] h2) : Ev X (mL nm) 40 400000 4000000 QL cells slots 1455 (LSi i) [] h := by
  have F : Fx h := I.F
  refine e_aload_n aL_law_1455 rfl ?_
  refine e_aload_n aL_law_1456 rfl ?_
  refine e_iload_n aL_law_1457 rfl ?_
  refine e_iconst (v := 1) aL_law_1458 (by decide) ?_
  refine e_iadd aL_law_1459 ?_
  refine e_ialoadX aL_law_1460 (hin 1 (by decide)) ?_
  refine e_invv aL_law_1461 kL_179 (op_seed X I (xs X (nI i + 1).toNatClampNeg)) rfl rfl (fx_is F rfl) (Nat.le_of_ble_eq_true rfl) (Nat.le_of_ble_eq_true rfl) (by omega) (by omega) (Nat.le_of_ble_eq_true rfl) ?_
  rintro v1 h1 ⟨x9, rfl, F1, C9⟩
  refine e_aload_n aL_law_1464 rfl ?_
  refine e_aload_n aL_law_1465 rfl ?_
  refine e_iload_n aL_law_1466 rfl ?_
  refine e_iconst (v := 1) aL_law_1467 (by decide) ?_
  refine e_iadd aL_law_1468 ?_
  refine e_ialoadX aL_law_1469 (hin 1 (by decide)) ?_
  refine e_invv aL_law_1470 kL_182 C9 rfl rfl (fx_is F1 rfl) (Nat.le_of_ble_eq_true rfl) (Nat.le_of_ble_eq_true rfl) (by omega) (by omega) (Nat.le_of_ble_eq_true rfl) ?_
  rintro v2 h2 ⟨rfl, I2⟩
  exact e_icmp_eq aL_law_1473 (fun _ => e_widen (by omega) (by omega) (k h2 I2)) (fun z => absurd rfl z)
theorem law_40 (X : EX) {nm : String} {c i cells slots : Nat} {h : HP} (I : Inv c h) (hin : ∀ j, j < 6 → vp_in (nI i + nI j) (xN X)) (hc9 : c ≤ 1000) (hc : cells + 39 ≤ 400000) (hs : slots + 377 ≤ 4000000) (k : ∀ h2, Inv (c + 1) h2 → Ev X (mL nm) 40 400000 4000000 QL (cells + 39) (slots + 377) 1524 (LSi i) [] h2) : Ev X (mL nm) 40 400000 4000000 QL cells slots 1478 (LSi i) [] h := by
  have F : Fx h := I.F
  refine e_aload_n aL_law_1478 rfl ?_
  refine e_aload_n aL_law_1479 rfl ?_
  refine e_iload_n aL_law_1480 rfl ?_
  refine e_iconst (v := 1) aL_law_1481 (by decide) ?_
  refine e_iadd aL_law_1482 ?_
  refine e_ialoadX aL_law_1483 (hin 1 (by decide)) ?_
  refine e_invv aL_law_1484 kL_183 (op_count X I (xs X (nI i + 1).toNatClampNeg)) rfl rfl (fx_is F rfl) (Nat.le_of_ble_eq_true rfl) (Nat.le_of_ble_eq_true rfl) (by omega) (by omega) (Nat.le_of_ble_eq_true rfl) ?_
  rintro v1 h1 ⟨x9, rfl, F1, C9⟩
  refine e_aload_n aL_law_1487 rfl ?_
  refine e_aload_n aL_law_1488 rfl ?_
  refine e_iload_n aL_law_1489 rfl ?_
  refine e_iconst (v := 1) aL_law_1490 (by decide) ?_
  refine e_iadd aL_law_1491 ?_
  refine e_ialoadX aL_law_1492 (hin 1 (by decide)) ?_
  refine e_invv aL_law_1493 kL_186 C9 rfl rfl (fx_is F1 rfl) (Nat.le_of_ble_eq_true rfl) (Nat.le_of_ble_eq_true rfl) (by omega) (by omega) (Nat.le_of_ble_eq_true rfl) ?_
  rintro v2 h2 ⟨rfl, I2⟩
  exact e_icmp_eq aL_law_1496 (fun _ => e_widen (by omega) (by omega) (k h2 I2)) (fun z => absurd rfl z)
theorem law_41 (X : EX) {nm : String} {c i cells slots : Nat} {h : HP} (I : Inv c h) (hin : ∀ j, j < 6 → vp_in (nI i + nI j) (xN X)) (hc9 : c ≤ 1000) (hc : cells + 39 ≤ 400000) (hs : slots + 377 ≤ 4000000) (k : ∀ h2, Inv (c + 1) h2 → Ev X (mL nm) 40 400000 4000000 QL (cells + 39) (slots + 377) 1524 (LSi i) [] h2) : Ev X (mL nm) 40 400000 4000000 QL cells slots 1501 (LSi i) [] h := by
  have F : Fx h := I.F
  refine e_aload_n aL_law_1501 rfl ?_
  refine e_aload_n aL_law_1502 rfl ?_
  refine e_iload_n aL_law_1503 rfl ?_
  refine e_iconst (v := 1) aL_law_1504 (by decide) ?_
  refine e_iadd aL_law_1505 ?_
  refine e_ialoadX aL_law_1506 (hin 1 (by decide)) ?_
  refine e_invv aL_law_1507 kL_187 (op_status X I (xs X (nI i + 1).toNatClampNeg)) rfl rfl (fx_is F rfl) (Nat.le_of_ble_eq_true rfl) (Nat.le_of_ble_eq_true rfl) (by omega) (by omega) (Nat.le_of_ble_eq_true rfl) ?_
  rintro v1 h1 ⟨x9, rfl, F1, C9⟩
  refine e_aload_n aL_law_1510 rfl ?_
  refine e_aload_n aL_law_1511 rfl ?_
  refine e_iload_n aL_law_1512 rfl ?_
  refine e_iconst (v := 1) aL_law_1513 (by decide) ?_
  refine e_iadd aL_law_1514 ?_
  refine e_ialoadX aL_law_1515 (hin 1 (by decide)) ?_
  refine e_invv aL_law_1516 kL_190 C9 rfl rfl (fx_is F1 rfl) (Nat.le_of_ble_eq_true rfl) (Nat.le_of_ble_eq_true rfl) (by omega) (by omega) (Nat.le_of_ble_eq_true rfl) ?_
  rintro v2 h2 ⟨rfl, I2⟩
  exact e_icmp_eq aL_law_1519 (fun _ => e_widen (by omega) (by omega) (k h2 I2)) (fun z => absurd rfl z)
theorem law_body (X : EX) {nm : String} {c i cells slots : Nat} {h : HP} (I : Inv c h) (hN : xN X ≤ 3072) (hi : i + 6 ≤ xN X) (hc9 : c ≤ 1000) (hc : cells + 39 ≤ 400000) (hs : slots + 377 ≤ 4000000) (k : ∀ h2, Inv (c + 1) h2 → Ev X (mL nm) 40 400000 4000000 QL (cells + 39) (slots + 377) 1524 (LSi i) [] h2) : Ev X (mL nm) 40 400000 4000000 QL cells slots 27 (LSi i) [] h := by
  have hin : ∀ j, j < 6 → vp_in (nI i + nI j) (xN X) := fun j hj => by
    rw [nI_add]
    exact vin (by omega) (by omega)
  refine e_aload_n aL_law_27 rfl ?_
  refine e_iload_n aL_law_28 rfl ?_
  refine e_ialoadX aL_law_29 (vin (by omega) (by omega)) ?_
  refine e_bipush (v := 63) aL_law_30 (by decide) ?_
  refine e_iand aL_law_32 ?_
  obtain ⟨j, hj, e⟩ := pk_andE (xs X (nI i).toNatClampNeg) (m := 63) 6 rfl
  refine e_top e ?_
  by_cases z0 : j = 0
  · subst z0
    exact e_tableIn (off := 183) (tgt := 216) aL_law_33 (by decide) (by decide) (by decide) (by decide) (law_0 X I hin hc9 hc hs k)
  by_cases z1 : j = 1
  · subst z1
    exact e_tableIn (off := 216) (tgt := 249) aL_law_33 (by decide) (by decide) (by decide) (by decide) (law_1 X I hin hc9 hc hs k)
  by_cases z2 : j = 2
  · subst z2
    exact e_tableIn (off := 249) (tgt := 282) aL_law_33 (by decide) (by decide) (by decide) (by decide) (law_2 X I hin hc9 hc hs k)
  by_cases z3 : j = 3
  · subst z3
    exact e_tableIn (off := 272) (tgt := 305) aL_law_33 (by decide) (by decide) (by decide) (by decide) (law_3 X I hin hc9 hc hs k)
  by_cases z4 : j = 4
  · subst z4
    exact e_tableIn (off := 295) (tgt := 328) aL_law_33 (by decide) (by decide) (by decide) (by decide) (law_4 X I hin hc9 hc hs k)
  by_cases z5 : j = 5
  · subst z5
    exact e_tableIn (off := 308) (tgt := 341) aL_law_33 (by decide) (by decide) (by decide) (by decide) (law_5 X I hin hc9 hc hs k)
  by_cases z6 : j = 6
  · subst z6
    exact e_tableIn (off := 371) (tgt := 404) aL_law_33 (by decide) (by decide) (by decide) (by decide) (law_6 X I hin hc9 hc hs k)
  by_cases z7 : j = 7
  · subst z7
    exact e_tableIn (off := 434) (tgt := 467) aL_law_33 (by decide) (by decide) (by decide) (by decide) (law_7 X I hin hc9 hc hs k)
  by_cases z8 : j = 8
  · subst z8
    exact e_tableIn (off := 447) (tgt := 480) aL_law_33 (by decide) (by decide) (by decide) (by decide) (law_8 X I hin hc9 hc hs k)
  by_cases z9 : j = 9
  · subst z9
    exact e_tableIn (off := 480) (tgt := 513) aL_law_33 (by decide) (by decide) (by decide) (by decide) (law_9 X I hin hc9 hc hs k)
  by_cases z10 : j = 10
  · subst z10
    exact e_tableIn (off := 513) (tgt := 546) aL_law_33 (by decide) (by decide) (by decide) (by decide) (law_10 X I hin hc9 hc hs k)
  by_cases z11 : j = 11
  · subst z11
    exact e_tableIn (off := 556) (tgt := 589) aL_law_33 (by decide) (by decide) (by decide) (by decide) (law_11 X I hin hc9 hc hs k)
  by_cases z12 : j = 12
  · subst z12
    exact e_tableIn (off := 569) (tgt := 602) aL_law_33 (by decide) (by decide) (by decide) (by decide) (law_12 X I hin hc9 hc hs k)
  by_cases z13 : j = 13
  · subst z13
    exact e_tableIn (off := 582) (tgt := 615) aL_law_33 (by decide) (by decide) (by decide) (by decide) (law_13 X I hin hc9 hc hs k)
  by_cases z14 : j = 14
  · subst z14
    exact e_tableIn (off := 605) (tgt := 638) aL_law_33 (by decide) (by decide) (by decide) (by decide) (law_14 X I hin hc9 hc hs k)
  by_cases z15 : j = 15
  · subst z15
    exact e_tableIn (off := 638) (tgt := 671) aL_law_33 (by decide) (by decide) (by decide) (by decide) (law_15 X I hin hc9 hc hs k)
  by_cases z16 : j = 16
  · subst z16
    exact e_tableIn (off := 681) (tgt := 714) aL_law_33 (by decide) (by decide) (by decide) (by decide) (law_16 X I hin hc9 hc hs k)
  by_cases z17 : j = 17
  · subst z17
    exact e_tableIn (off := 714) (tgt := 747) aL_law_33 (by decide) (by decide) (by decide) (by decide) (law_17 X I hin hc9 hc hs k)
  by_cases z18 : j = 18
  · subst z18
    exact e_tableIn (off := 737) (tgt := 770) aL_law_33 (by decide) (by decide) (by decide) (by decide) (law_18 X I hin hc9 hc hs k)
  by_cases z19 : j = 19
  · subst z19
    exact e_tableIn (off := 760) (tgt := 793) aL_law_33 (by decide) (by decide) (by decide) (by decide) (law_19 X I hin hc9 hc hs k)
  by_cases z20 : j = 20
  · subst z20
    exact e_tableIn (off := 793) (tgt := 826) aL_law_33 (by decide) (by decide) (by decide) (by decide) (law_20 X I hin hc9 hc hs k)
  by_cases z21 : j = 21
  · subst z21
    exact e_tableIn (off := 826) (tgt := 859) aL_law_33 (by decide) (by decide) (by decide) (by decide) (law_21 X I hin hc9 hc hs k)
  by_cases z22 : j = 22
  · subst z22
    exact e_tableIn (off := 859) (tgt := 892) aL_law_33 (by decide) (by decide) (by decide) (by decide) (law_22 X I hin hc9 hc hs k)
  by_cases z23 : j = 23
  · subst z23
    exact e_tableIn (off := 892) (tgt := 925) aL_law_33 (by decide) (by decide) (by decide) (by decide) (law_23 X I hin hc9 hc hs k)
  by_cases z24 : j = 24
  · subst z24
    exact e_tableIn (off := 916) (tgt := 949) aL_law_33 (by decide) (by decide) (by decide) (by decide) (law_24 X I hin hc9 hc hs k)
  by_cases z25 : j = 25
  · subst z25
    exact e_tableIn (off := 949) (tgt := 982) aL_law_33 (by decide) (by decide) (by decide) (by decide) (law_25 X I hin hc9 hc hs k)
  by_cases z26 : j = 26
  · subst z26
    exact e_tableIn (off := 972) (tgt := 1005) aL_law_33 (by decide) (by decide) (by decide) (by decide) (law_26 X I hin hc9 hc hs k)
  by_cases z27 : j = 27
  · subst z27
    exact e_tableIn (off := 1005) (tgt := 1038) aL_law_33 (by decide) (by decide) (by decide) (by decide) (law_27 X I hin hc9 hc hs k)
  by_cases z28 : j = 28
  · subst z28
    exact e_tableIn (off := 1038) (tgt := 1071) aL_law_33 (by decide) (by decide) (by decide) (by decide) (law_28 X I hin hc9 hc hs k)
  by_cases z29 : j = 29
  · subst z29
    exact e_tableIn (off := 1071) (tgt := 1104) aL_law_33 (by decide) (by decide) (by decide) (by decide) (law_29 X I hin hc9 hc hs k)
  by_cases z30 : j = 30
  · subst z30
    exact e_tableIn (off := 1104) (tgt := 1137) aL_law_33 (by decide) (by decide) (by decide) (by decide) (law_30 X I hin hc9 hc hs k)
  by_cases z31 : j = 31
  · subst z31
    exact e_tableIn (off := 1117) (tgt := 1150) aL_law_33 (by decide) (by decide) (by decide) (by decide) (law_31 X I hin hc9 hc hs k)
  by_cases z32 : j = 32
  · subst z32
    exact e_tableIn (off := 1160) (tgt := 1193) aL_law_33 (by decide) (by decide) (by decide) (by decide) (law_32 X I hin hc9 hc hs k)
  by_cases z33 : j = 33
  · subst z33
    exact e_tableIn (off := 1233) (tgt := 1266) aL_law_33 (by decide) (by decide) (by decide) (by decide) (law_33 X I hin hc9 hc hs k)
  by_cases z34 : j = 34
  · subst z34
    exact e_tableIn (off := 1267) (tgt := 1300) aL_law_33 (by decide) (by decide) (by decide) (by decide) (law_34 X I hin hc9 hc hs k)
  by_cases z35 : j = 35
  · subst z35
    exact e_tableIn (off := 1330) (tgt := 1363) aL_law_33 (by decide) (by decide) (by decide) (by decide) (law_35 X I hin hc9 hc hs k)
  by_cases z36 : j = 36
  · subst z36
    exact e_tableIn (off := 1363) (tgt := 1396) aL_law_33 (by decide) (by decide) (by decide) (by decide) (law_36 X I hin hc9 hc hs k)
  by_cases z37 : j = 37
  · subst z37
    exact e_tableIn (off := 1396) (tgt := 1429) aL_law_33 (by decide) (by decide) (by decide) (by decide) (law_37 X I hin hc9 hc hs k)
  by_cases z38 : j = 38
  · subst z38
    exact e_tableIn (off := 1409) (tgt := 1442) aL_law_33 (by decide) (by decide) (by decide) (by decide) (law_38 X I hin hc9 hc hs k)
  by_cases z39 : j = 39
  · subst z39
    exact e_tableIn (off := 1422) (tgt := 1455) aL_law_33 (by decide) (by decide) (by decide) (by decide) (law_39 X I hin hc9 hc hs k)
  by_cases z40 : j = 40
  · subst z40
    exact e_tableIn (off := 1445) (tgt := 1478) aL_law_33 (by decide) (by decide) (by decide) (by decide) (law_40 X I hin hc9 hc hs k)
  by_cases z41 : j = 41
  · subst z41
    exact e_tableIn (off := 1468) (tgt := 1501) aL_law_33 (by decide) (by decide) (by decide) (by decide) (law_41 X I hin hc9 hc hs k)
  exact e_tableOut aL_law_33 (tgt := 1524) (Or.inr (by rw [nI_toInt (by omega)]; omega)) (by decide) (e_widen (by omega) (by omega) (k h I.s))
theorem law_loop (X : EX) {nm : String} (hN : xN X ≤ 3072) : ∀ (m c cells slots : Nat) (h : HP), Inv c h → c + m = 512 → cells + 39 * m ≤ 400000 → slots + 377 * m ≤ 4000000 → Ev X (mL nm) 40 400000 4000000 QL cells slots 18 (LSi (6 * c)) [] h := by
  intro m
  induction m with
  | zero =>
    intro c cells slots h I hm hc hs
    refine e_iload_n aL_law_18 rfl ?_
    refine e_aload_n aL_law_19 rfl ?_
    refine e_alenX aL_law_20 ?_
    refine e_bipush (v := 6) aL_law_21 (by decide) ?_
    refine e_isub aL_law_23 ?_
    refine e_icmp_gt aL_law_24 (fun _ => ?_) (fun z => ?_)
    · refine e_iconst (v := 1) aL_law_1530 (by decide) ?_
      exact e_zreturn aL_law_1531 rfl (Or.inr rfl) (by omega) (by omega) rfl
    · have := le6 hN (by omega) z
      omega
  | succ m ih =>
    intro c cells slots h I hm hc hs
    refine e_iload_n aL_law_18 rfl ?_
    refine e_aload_n aL_law_19 rfl ?_
    refine e_alenX aL_law_20 ?_
    refine e_bipush (v := 6) aL_law_21 (by decide) ?_
    refine e_isub aL_law_23 ?_
    refine e_icmp_gt aL_law_24 (fun _ => ?_) (fun z => ?_)
    · refine e_iconst (v := 1) aL_law_1530 (by decide) ?_
      exact e_zreturn aL_law_1531 rfl (Or.inr rfl) (by omega) (by omega) rfl
    · have hi := le6 hN (by omega) z
      have b1 : c ≤ 1000 := by omega
      have b2 : cells + 39 ≤ 400000 := by omega
      rw [Nat.mul_succ 377 m] at hs
      have b3 : slots + 377 ≤ 4000000 := Nat.le_trans (Nat.add_le_add_left (Nat.le_add_left 377 (377 * m)) slots) hs
      have b4 : slots + 377 + 377 * m ≤ 4000000 := by rw [Nat.add_assoc, Nat.add_comm 377]; exact hs
      refine law_body (i := 6 * c) (cells := cells) (slots := slots) X I hN hi b1 b2 b3 (fun h2 I2 => ?_)
      refine e_iinc (v := nI (6 * (c + 1))) aL_law_1524 rfl (nI_add (6 * c) 6) (Nat.le_of_ble_eq_true rfl) ?_
      refine e_goto aL_law_1527 ?_
      refine e_ls (ls' := LSi (6 * (c + 1))) ⟨rfl, rfl, rfl, rfl, trivial⟩ ?_
      exact ih (c + 1) (cells + 39) (slots + 377) h2 I2 (by omega) (by omega) b4
theorem law_top (X : EX) {nm : String} (hN : xN X ≤ 3072) : Ev X (mL nm) 40 400000 4000000 QL 0 0 0 (arL 0 [vR (some 6)]) [] HH0 := by
  have ez : hZ (c9H h1H) = 109 := (c8_P pz1).1
  refine e_new aL_law_0 nL_7 (by decide) (by decide) ?_
  show Ev X (mL nm) 40 400000 4000000 QL (0 + 1) (0 + nF 8) 3 (arL 0 [vR (some 6)]) [vR (some 32)] h1H
  refine e_dup aL_law_3 rfl ?_
  refine e_invi aL_law_4 kL_9 (zX8_init X pz1) rfl rfl (Nat.le_of_ble_eq_true rfl) (Nat.le_of_ble_eq_true rfl) (Nat.le_of_ble_eq_true rfl) (Nat.le_of_ble_eq_true rfl) (Nat.le_of_ble_eq_true rfl) ?_
  rintro v h2 ⟨rfl, rfl⟩
  refine e_astore_n aL_law_7 (Nat.le_of_ble_eq_true rfl) ?_
  refine e_new aL_law_8 nL_10 (Nat.le_of_ble_eq_true rfl) (Nat.le_of_ble_eq_true rfl) ?_
  refine e_topR (congrArg some ez) ?_
  rw [nwk_e ez]
  refine e_dup aL_law_11 rfl ?_
  refine e_invi aL_law_12 kL_12 (zX9_init X pz2) rfl rfl (Nat.le_of_ble_eq_true rfl) (Nat.le_of_ble_eq_true rfl) (Nat.le_of_ble_eq_true rfl) (Nat.le_of_ble_eq_true rfl) (Nat.le_of_ble_eq_true rfl) ?_
  rintro v h2 ⟨rfl, rfl⟩
  refine e_astore_n aL_law_15 (Nat.le_of_ble_eq_true rfl) ?_
  refine e_iconst (v := 0) aL_law_16 (by decide) ?_
  refine e_istore_n aL_law_17 (Nat.le_of_ble_eq_true rfl) ?_
  refine e_ls (ls' := LSi (6 * 0)) ⟨rfl, rfl, rfl, rfl, trivial⟩ ?_
  exact law_loop X hN 512 0 _ _ GG0 inv00 rfl (Nat.le_of_ble_eq_true rfl) (Nat.le_of_ble_eq_true rfl)
