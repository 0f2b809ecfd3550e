/-! own text: the law, case by case -/
abbrev hL_law : Nat := 30
theorem al_61 {K : Kx} {Y : Ys} {h : Nat} {Q : Qt} {pc pc' : Nat} {ls : List (Option AV)} {st : List AV} {N : Nm} {g : Ge} {n : Nat} {j : Int} (hj : j = (n : Int)) (hn : n < (N 61 1 0).toNat) (hs : n < 2 ^ 31) (hat : At Y pc .iaload 1 pc') (kk : AW K Y h Q pc' ls (vi (N 61 0 n) :: st) N g) : AW K Y h Q pc ls (vi j :: vr 61 0 :: st) N g := r_sald hj hn hs hat kk
def l32 (x : Int) : Int := (Int64.ofInt x <<< ((Int32.ofInt 32).toInt64 &&& 63)).toInt
def lo32 (y : Int) : Int := (Int64.ofInt y &&& Int64.ofInt 4294967295).toInt
def lgA (x y : Int) : Int := (Int64.ofInt (l32 x) ||| Int64.ofInt (lo32 y)).toInt
theorem lgA_r (x y : Int) : rL (lgA x y) := by
  have h1 := Int64.le_toInt (Int64.ofInt (l32 x) ||| Int64.ofInt (lo32 y))
  have h2 := Int64.toInt_lt (Int64.ofInt (l32 x) ||| Int64.ofInt (lo32 y))
  unfold lgA rL
  omega
section Law20a
variable {K : Kx} {N : Nm} {g : Ge} {Pq : Int → Nm → Ge → Prop}
theorem law_0 {n : Nat} (hI : Inv N g) (hr : ∀ j, rI (N 61 0 j)) (hn : 6 * n + 6 ≤ (N 61 1 0).toNat) (hl : (N 61 1 0).toNat ≤ 3072) (next : ∀ N' g', Fin2 N N' g' → AW K YL_law hL_law (qI Pq) 2059 [some (vr 61 0), some (vr 0 0), some (vr 40 0), some (vr 60 0), some (vi (6 * (n : Int))), none, none] [] N' g') : AW K YL_law hL_law (qI Pq) 240 [some (vr 61 0), some (vr 0 0), some (vr 40 0), some (vr 60 0), some (vi (6 * (n : Int))), none, none] [] N g := by
  obtain ⟨d, wg, p, T, L, h⟩ := hI
  refine ld_a1 iL_law_240 ?_
  refine ld_a0 iL_law_241 ?_
  refine ld_i4 iL_law_242 ?_
  refine r_iconst iL_law_244 ?_
  refine r_iadd iL_law_245 ?_
  refine al_61 (n := (6 * n + 1)) (by omega) (by omega) (by omega) iL_law_246 ?_
  refine ld_a0 iL_law_247 ?_
  refine ld_i4 iL_law_248 ?_
  refine r_iconst iL_law_250 ?_
  refine r_iadd iL_law_251 ?_
  refine al_61 (n := (6 * n + 2)) (by omega) (by omega) (by omega) iL_law_252 ?_
  refine ld_a0 iL_law_253 ?_
  refine ld_i4 iL_law_254 ?_
  refine r_iconst iL_law_256 ?_
  refine r_iadd iL_law_257 ?_
  refine al_61 (n := (6 * n + 3)) (by omega) (by omega) (by omega) iL_law_258 ?_
  refine ld_a0 iL_law_259 ?_
  refine ld_i4 iL_law_260 ?_
  refine r_iconst iL_law_262 ?_
  refine r_iadd iL_law_263 ?_
  refine al_61 (n := (6 * n + 4)) (by omega) (by omega) (by omega) iL_law_264 ?_
  refine ld_a0 iL_law_265 ?_
  refine ld_i4 iL_law_266 ?_
  refine r_iconst iL_law_268 ?_
  refine r_iadd iL_law_269 ?_
  refine al_61 (n := (6 * n + 5)) (by omega) (by omega) (by omega) iL_law_270 ?_
  refine xX9_feed kML_19 iL_law_271 (by decide) (Nat.le_of_ble_eq_true rfl) rfl rfl ?_
  refine Ck.mapI ?_ (q_feed h )
  rintro z N1 g1 ⟨s1, hm⟩
  have s61 := s1.1 1 0
  refine ld_a2 iL_law_274 ?_
  refine ld_a0 iL_law_275 ?_
  refine ld_i4 iL_law_276 ?_
  refine r_iconst iL_law_278 ?_
  refine r_iadd iL_law_279 ?_
  refine al_61 (n := (6 * n + 1)) (by omega) (by omega) (by omega) iL_law_280 ?_
  rw [s1.1 0 (6 * n + 1)]
  refine ld_a0 iL_law_281 ?_
  refine ld_i4 iL_law_282 ?_
  refine r_iconst iL_law_284 ?_
  refine r_iadd iL_law_285 ?_
  refine al_61 (n := (6 * n + 2)) (by omega) (by omega) (by omega) iL_law_286 ?_
  rw [s1.1 0 (6 * n + 2)]
  refine ld_a0 iL_law_287 ?_
  refine ld_i4 iL_law_288 ?_
  refine r_iconst iL_law_290 ?_
  refine r_iadd iL_law_291 ?_
  refine al_61 (n := (6 * n + 3)) (by omega) (by omega) (by omega) iL_law_292 ?_
  rw [s1.1 0 (6 * n + 3)]
  refine ld_a0 iL_law_293 ?_
  refine ld_i4 iL_law_294 ?_
  refine r_iconst iL_law_296 ?_
  refine r_iadd iL_law_297 ?_
  refine al_61 (n := (6 * n + 4)) (by omega) (by omega) (by omega) iL_law_298 ?_
  rw [s1.1 0 (6 * n + 4)]
  refine ld_a0 iL_law_299 ?_
  refine ld_i4 iL_law_300 ?_
  refine r_iconst iL_law_302 ?_
  refine r_iadd iL_law_303 ?_
  refine al_61 (n := (6 * n + 5)) (by omega) (by omega) (by omega) iL_law_304 ?_
  rw [s1.1 0 (6 * n + 5)]
  refine xX10_feed kML_23 iL_law_305 (by decide) (Nat.le_of_ble_eq_true rfl) rfl rfl ?_
  refine Ck.mapI ?_ hm
  rintro z2 N2 g2 ⟨e2, hf⟩
  subst e2
  refine r_icmpeqS iL_law_308 ?_
  exact next _ _ hf
theorem law_1 {n : Nat} (hI : Inv N g) (hr : ∀ j, rI (N 61 0 j)) (hn : 6 * n + 6 ≤ (N 61 1 0).toNat) (hl : (N 61 1 0).toNat ≤ 3072) (next : ∀ N' g', Fin2 N N' g' → AW K YL_law hL_law (qI Pq) 2059 [some (vr 61 0), some (vr 0 0), some (vr 40 0), some (vr 60 0), some (vi (6 * (n : Int))), none, none] [] N' g') : AW K YL_law hL_law (qI Pq) 313 [some (vr 61 0), some (vr 0 0), some (vr 40 0), some (vr 60 0), some (vi (6 * (n : Int))), none, none] [] N g := by
  obtain ⟨d, wg, p, T, L, h⟩ := hI
  refine ld_a1 iL_law_313 ?_
  refine ld_a0 iL_law_314 ?_
  refine ld_i4 iL_law_315 ?_
  refine r_iconst iL_law_317 ?_
  refine r_iadd iL_law_318 ?_
  refine al_61 (n := (6 * n + 1)) (by omega) (by omega) (by omega) iL_law_319 ?_
  refine xX9_end kML_24 iL_law_320 (by decide) (Nat.le_of_ble_eq_true rfl) rfl rfl ?_
  refine Ck.mapI ?_ (q_end h (hr _))
  rintro z N1 g1 ⟨s1, hm⟩
  have s61 := s1.1 1 0
  refine ld_a2 iL_law_323 ?_
  refine ld_a0 iL_law_324 ?_
  refine ld_i4 iL_law_325 ?_
  refine r_iconst iL_law_327 ?_
  refine r_iadd iL_law_328 ?_
  refine al_61 (n := (6 * n + 1)) (by omega) (by omega) (by omega) iL_law_329 ?_
  rw [s1.1 0 (6 * n + 1)]
  refine xX10_end kML_28 iL_law_330 (by decide) (Nat.le_of_ble_eq_true rfl) rfl rfl ?_
  refine Ck.mapI ?_ hm
  rintro z2 N2 g2 ⟨e2, hf⟩
  subst e2
  refine r_icmpeqS iL_law_333 ?_
  exact next _ _ hf
theorem law_2 {n : Nat} (hI : Inv N g) (hr : ∀ j, rI (N 61 0 j)) (hn : 6 * n + 6 ≤ (N 61 1 0).toNat) (hl : (N 61 1 0).toNat ≤ 3072) (next : ∀ N' g', Fin2 N N' g' → AW K YL_law hL_law (qI Pq) 2059 [some (vr 61 0), some (vr 0 0), some (vr 40 0), some (vr 60 0), some (vi (6 * (n : Int))), none, none] [] N' g') : AW K YL_law hL_law (qI Pq) 338 [some (vr 61 0), some (vr 0 0), some (vr 40 0), some (vr 60 0), some (vi (6 * (n : Int))), none, none] [] N g := by
  obtain ⟨d, wg, p, T, L, h⟩ := hI
  refine ld_a1 iL_law_338 ?_
  refine xX9_fault kML_29 iL_law_339 (by decide) (Nat.le_of_ble_eq_true rfl) rfl rfl ?_
  refine Ck.mapI ?_ (q_fault h )
  rintro z N1 g1 ⟨s1, hm⟩
  have s61 := s1.1 1 0
  refine ld_a2 iL_law_342 ?_
  refine xX10_fault kML_33 iL_law_343 (by decide) (Nat.le_of_ble_eq_true rfl) rfl rfl ?_
  refine Ck.mapI ?_ hm
  rintro z2 N2 g2 ⟨e2, hf⟩
  subst e2
  refine r_icmpeqS iL_law_346 ?_
  exact next _ _ hf
theorem law_3 {n : Nat} (hI : Inv N g) (hr : ∀ j, rI (N 61 0 j)) (hn : 6 * n + 6 ≤ (N 61 1 0).toNat) (hl : (N 61 1 0).toNat ≤ 3072) (next : ∀ N' g', Fin2 N N' g' → AW K YL_law hL_law (qI Pq) 2059 [some (vr 61 0), some (vr 0 0), some (vr 40 0), some (vr 60 0), some (vi (6 * (n : Int))), none, none] [] N' g') : AW K YL_law hL_law (qI Pq) 351 [some (vr 61 0), some (vr 0 0), some (vr 40 0), some (vr 60 0), some (vi (6 * (n : Int))), none, none] [] N g := by
  obtain ⟨d, wg, p, T, L, h⟩ := hI
  refine ld_a1 iL_law_351 ?_
  refine xX9_desk kML_34 iL_law_352 (by decide) (Nat.le_of_ble_eq_true rfl) rfl rfl ?_
  refine Ck.mapI ?_ (q_desk h )
  rintro z N1 g1 ⟨s1, hm⟩
  have s61 := s1.1 1 0
  refine ld_a2 iL_law_355 ?_
  refine xX10_desk kML_37 iL_law_356 (by decide) (Nat.le_of_ble_eq_true rfl) rfl rfl ?_
  refine Ck.mapI ?_ hm
  rintro z2 N2 g2 ⟨e2, hf⟩
  subst e2
  refine r_icmpeqS iL_law_359 ?_
  exact next _ _ hf
theorem law_4 {n : Nat} (hI : Inv N g) (hr : ∀ j, rI (N 61 0 j)) (hn : 6 * n + 6 ≤ (N 61 1 0).toNat) (hl : (N 61 1 0).toNat ≤ 3072) (next : ∀ N' g', Fin2 N N' g' → AW K YL_law hL_law (qI Pq) 2059 [some (vr 61 0), some (vr 0 0), some (vr 40 0), some (vr 60 0), some (vi (6 * (n : Int))), none, none] [] N' g') : AW K YL_law hL_law (qI Pq) 364 [some (vr 61 0), some (vr 0 0), some (vr 40 0), some (vr 60 0), some (vi (6 * (n : Int))), none, none] [] N g := by
  obtain ⟨d, wg, p, T, L, h⟩ := hI
  refine ld_a1 iL_law_364 ?_
  refine ld_a0 iL_law_365 ?_
  refine ld_i4 iL_law_366 ?_
  refine r_iconst iL_law_368 ?_
  refine r_iadd iL_law_369 ?_
  refine al_61 (n := (6 * n + 1)) (by omega) (by omega) (by omega) iL_law_370 ?_
  refine xX9_rule kML_38 iL_law_371 (by decide) (Nat.le_of_ble_eq_true rfl) rfl rfl ?_
  refine Ck.mapI ?_ (q_rule h (hr _))
  rintro z N1 g1 ⟨s1, hm⟩
  have s61 := s1.1 1 0
  refine ld_a2 iL_law_374 ?_
  refine ld_a0 iL_law_375 ?_
  refine ld_i4 iL_law_376 ?_
  refine r_iconst iL_law_378 ?_
  refine r_iadd iL_law_379 ?_
  refine al_61 (n := (6 * n + 1)) (by omega) (by omega) (by omega) iL_law_380 ?_
  rw [s1.1 0 (6 * n + 1)]
  refine xX10_rule kML_42 iL_law_381 (by decide) (Nat.le_of_ble_eq_true rfl) rfl rfl ?_
  refine Ck.mapI ?_ hm
  rintro z2 N2 g2 ⟨e2, hf⟩
  subst e2
  refine r_icmpeqS iL_law_384 ?_
  exact next _ _ hf
theorem law_6 {n : Nat} (hI : Inv N g) (hr : ∀ j, rI (N 61 0 j)) (hn : 6 * n + 6 ≤ (N 61 1 0).toNat) (hl : (N 61 1 0).toNat ≤ 3072) (next : ∀ N' g', Fin2 N N' g' → AW K YL_law hL_law (qI Pq) 2059 [some (vr 61 0), some (vr 0 0), some (vr 40 0), some (vr 60 0), some (vi (6 * (n : Int))), none, none] [] N' g') : AW K YL_law hL_law (qI Pq) 457 [some (vr 61 0), some (vr 0 0), some (vr 40 0), some (vr 60 0), some (vi (6 * (n : Int))), none, none] [] N g := by
  obtain ⟨d, wg, p, T, L, h⟩ := hI
  refine ld_a1 iL_law_457 ?_
  refine ld_a0 iL_law_458 ?_
  refine ld_i4 iL_law_459 ?_
  refine r_iconst iL_law_461 ?_
  refine r_iadd iL_law_462 ?_
  refine al_61 (n := (6 * n + 1)) (by omega) (by omega) (by omega) iL_law_463 ?_
  refine ld_a0 iL_law_464 ?_
  refine ld_i4 iL_law_465 ?_
  refine r_iconst iL_law_467 ?_
  refine r_iadd iL_law_468 ?_
  refine al_61 (n := (6 * n + 2)) (by omega) (by omega) (by omega) iL_law_469 ?_
  refine ld_a0 iL_law_470 ?_
  refine ld_i4 iL_law_471 ?_
  refine r_iconst iL_law_473 ?_
  refine r_iadd iL_law_474 ?_
  refine al_61 (n := (6 * n + 3)) (by omega) (by omega) (by omega) iL_law_475 ?_
  refine xX9_segment kML_52 iL_law_476 (by decide) (Nat.le_of_ble_eq_true rfl) rfl rfl ?_
  refine Ck.mapI ?_ (q_segment h (hr _) (hr _) (hr _))
  rintro z N1 g1 ⟨s1, hm⟩
  have s61 := s1.1 1 0
  refine ld_a2 iL_law_479 ?_
  refine ld_a0 iL_law_480 ?_
  refine ld_i4 iL_law_481 ?_
  refine r_iconst iL_law_483 ?_
  refine r_iadd iL_law_484 ?_
  refine al_61 (n := (6 * n + 1)) (by omega) (by omega) (by omega) iL_law_485 ?_
  rw [s1.1 0 (6 * n + 1)]
  refine ld_a0 iL_law_486 ?_
  refine ld_i4 iL_law_487 ?_
  refine r_iconst iL_law_489 ?_
  refine r_iadd iL_law_490 ?_
  refine al_61 (n := (6 * n + 2)) (by omega) (by omega) (by omega) iL_law_491 ?_
  rw [s1.1 0 (6 * n + 2)]
  refine ld_a0 iL_law_492 ?_
  refine ld_i4 iL_law_493 ?_
  refine r_iconst iL_law_495 ?_
  refine r_iadd iL_law_496 ?_
  refine al_61 (n := (6 * n + 3)) (by omega) (by omega) (by omega) iL_law_497 ?_
  rw [s1.1 0 (6 * n + 3)]
  refine xX10_segment kML_56 iL_law_498 (by decide) (Nat.le_of_ble_eq_true rfl) rfl rfl ?_
  refine Ck.mapI ?_ hm
  rintro z2 N2 g2 ⟨e2, hf⟩
  subst e2
  refine r_icmpeqS iL_law_501 ?_
  exact next _ _ hf
theorem law_7 {n : Nat} (hI : Inv N g) (hr : ∀ j, rI (N 61 0 j)) (hn : 6 * n + 6 ≤ (N 61 1 0).toNat) (hl : (N 61 1 0).toNat ≤ 3072) (next : ∀ N' g', Fin2 N N' g' → AW K YL_law hL_law (qI Pq) 2059 [some (vr 61 0), some (vr 0 0), some (vr 40 0), some (vr 60 0), some (vi (6 * (n : Int))), none, none] [] N' g') : AW K YL_law hL_law (qI Pq) 506 [some (vr 61 0), some (vr 0 0), some (vr 40 0), some (vr 60 0), some (vi (6 * (n : Int))), none, none] [] N g := by
  obtain ⟨d, wg, p, T, L, h⟩ := hI
  refine ld_a1 iL_law_506 ?_
  refine ld_a0 iL_law_507 ?_
  refine ld_i4 iL_law_508 ?_
  refine r_iconst iL_law_510 ?_
  refine r_iadd iL_law_511 ?_
  refine al_61 (n := (6 * n + 1)) (by omega) (by omega) (by omega) iL_law_512 ?_
  refine ld_a0 iL_law_513 ?_
  refine ld_i4 iL_law_514 ?_
  refine r_iconst iL_law_516 ?_
  refine r_iadd iL_law_517 ?_
  refine al_61 (n := (6 * n + 2)) (by omega) (by omega) (by omega) iL_law_518 ?_
  refine xX9_at kML_57 iL_law_519 (by decide) (Nat.le_of_ble_eq_true rfl) rfl rfl ?_
  refine Ck.mapL ?_ (q_at h (hr _) (hr _))
  rintro z N1 g1 ⟨s1, hm⟩
  have s61 := s1.1 1 0
  refine ld_a2 iL_law_522 ?_
  refine ld_a0 iL_law_523 ?_
  refine ld_i4 iL_law_524 ?_
  refine r_iconst iL_law_526 ?_
  refine r_iadd iL_law_527 ?_
  refine al_61 (n := (6 * n + 1)) (by omega) (by omega) (by omega) iL_law_528 ?_
  rw [s1.1 0 (6 * n + 1)]
  refine ld_a0 iL_law_529 ?_
  refine ld_i4 iL_law_530 ?_
  refine r_iconst iL_law_532 ?_
  refine r_iadd iL_law_533 ?_
  refine al_61 (n := (6 * n + 2)) (by omega) (by omega) (by omega) iL_law_534 ?_
  rw [s1.1 0 (6 * n + 2)]
  refine xX10_at kML_61 iL_law_535 (by decide) (Nat.le_of_ble_eq_true rfl) rfl rfl ?_
  refine Ck.mapL ?_ hm
  rintro z2 N2 g2 ⟨e2, hf⟩
  subst e2
  refine r_lcmpS iL_law_538 ?_
  refine r_ifeq iL_law_539 (by omega) (fun h539 => ?_) (fun h539 => ?_)
  · exact next _ _ hf
  · exact absurd rfl h539
theorem law_8 {n : Nat} (hI : Inv N g) (hr : ∀ j, rI (N 61 0 j)) (hn : 6 * n + 6 ≤ (N 61 1 0).toNat) (hl : (N 61 1 0).toNat ≤ 3072) (next : ∀ N' g', Fin2 N N' g' → AW K YL_law hL_law (qI Pq) 2059 [some (vr 61 0), some (vr 0 0), some (vr 40 0), some (vr 60 0), some (vi (6 * (n : Int))), none, none] [] N' g') : AW K YL_law hL_law (qI Pq) 544 [some (vr 61 0), some (vr 0 0), some (vr 40 0), some (vr 60 0), some (vi (6 * (n : Int))), none, none] [] N g := by
  obtain ⟨d, wg, p, T, L, h⟩ := hI
  refine ld_a1 iL_law_544 ?_
  refine ld_a0 iL_law_545 ?_
  refine ld_i4 iL_law_546 ?_
  refine r_iconst iL_law_548 ?_
  refine r_iadd iL_law_549 ?_
  refine al_61 (n := (6 * n + 1)) (by omega) (by omega) (by omega) iL_law_550 ?_
  refine ld_a0 iL_law_551 ?_
  refine ld_i4 iL_law_552 ?_
  refine r_iconst iL_law_554 ?_
  refine r_iadd iL_law_555 ?_
  refine al_61 (n := (6 * n + 2)) (by omega) (by omega) (by omega) iL_law_556 ?_
  refine xX9_sum kML_62 iL_law_557 (by decide) (Nat.le_of_ble_eq_true rfl) rfl rfl ?_
  refine Ck.mapL ?_ (q_sum h (hr _) (hr _))
  rintro z N1 g1 ⟨s1, hm⟩
  have s61 := s1.1 1 0
  refine ld_a2 iL_law_560 ?_
  refine ld_a0 iL_law_561 ?_
  refine ld_i4 iL_law_562 ?_
  refine r_iconst iL_law_564 ?_
  refine r_iadd iL_law_565 ?_
  refine al_61 (n := (6 * n + 1)) (by omega) (by omega) (by omega) iL_law_566 ?_
  rw [s1.1 0 (6 * n + 1)]
  refine ld_a0 iL_law_567 ?_
  refine ld_i4 iL_law_568 ?_
  refine r_iconst iL_law_570 ?_
  refine r_iadd iL_law_571 ?_
  refine al_61 (n := (6 * n + 2)) (by omega) (by omega) (by omega) iL_law_572 ?_
  rw [s1.1 0 (6 * n + 2)]
  refine xX10_sum kML_65 iL_law_573 (by decide) (Nat.le_of_ble_eq_true rfl) rfl rfl ?_
  refine Ck.mapL ?_ hm
  rintro z2 N2 g2 ⟨e2, hf⟩
  subst e2
  refine r_lcmpS iL_law_576 ?_
  refine r_ifeq iL_law_577 (by omega) (fun h577 => ?_) (fun h577 => ?_)
  · exact next _ _ hf
  · exact absurd rfl h577
end Law20a
