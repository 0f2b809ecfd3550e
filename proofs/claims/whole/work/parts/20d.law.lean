/-! own text: the law's case of account -/
theorem fgt7 {x0 x1 x2 x3 x4 x5 x6 : Option AV} : fgt [x0, x1, x2, x3, x4, x5, x6] [x0, x1, x2, x3, x4, none, none] := fun i v hv => by
  rcases i with _ | _ | _ | _ | _ | _ | _ | i <;> first | exact hv | simp at hv
theorem CkW.post {K : Kx} {Y : Ys} {h : Nat} {hh : List (Nat × Nat × Nat × Nat)} {as : List AV} {N : Nm} {g : Ge} {Q Q' : Qt} (hq : ∀ r N' g', Q r N' g' → Q' r N' g') (kk : CkW K Y h hh as N g Q) : CkW K Y h hh as N g Q' := by
  intro ho ad p e ha hc hk s m args below hf happ hP hK
  obtain ⟨n, o, h1, h2, h3, dd, hdd, L, k, n', b3, b4, r, N', g', ad', c1, c2, c3⟩ := kk ho ad p e ha hc hk s m args below hf happ hP hK
  exact ⟨n, o, h1, h2, h3, dd, hdd, L, k, n', b3, b4, r, N', g', ad', c1, hq _ _ _ c2, c3⟩
section Law20d
variable {K : Kx} {N : Nm} {g : Ge} {Pq : Int → Nm → Ge → Prop}
theorem law_5b {n : Nat} {z b : Int} (hz : (z = 0 ∧ N 60 0 0 = b ∧ rI b) ∨ z = 1) (next : AW K YL_law hL_law (qI Pq) 2059 [some (vr 61 0), some (vr 0 0), some (vr 40 0), some (vr 60 0), some (vi (6 * (n : Int))), none, none] [] N g) : AW K YL_law hL_law (qI Pq) 437 [some (vr 61 0), some (vr 0 0), some (vr 40 0), some (vr 60 0), some (vi (6 * (n : Int))), some (vi z), some (vi b)] [] N g := by
  refine ld_i5 iL_law_437 ?_
  refine r_ifne iL_law_439 (by omega) (fun h439 => ?_) (fun h439 => ?_)
  · refine r_goto iL_law_454 ?_
    exact AW.forget fgt7 next
  · obtain ⟨z0, z60, zr⟩ : z = 0 ∧ N 60 0 0 = b ∧ rI b := by omega
    refine ld_a3 iL_law_442 ?_
    refine r_iconst iL_law_443 ?_
    refine al_60 (n := 0) (by omega) (by omega) iL_law_444 ?_
    rw [z60]
    refine ld_i6 iL_law_445 ?_
    refine r_i2l (by omega) iL_law_447 ?_
    refine r_lcmpS iL_law_448 ?_
    refine r_ifeq iL_law_449 (by omega) (fun h449 => ?_) (fun h449 => ?_)
    · refine r_goto iL_law_454 ?_
      exact AW.forget fgt7 next
    · exact absurd rfl h449
theorem law_5 {n : Nat} (hI : Inv N g) (h99 : 1 ≤ N 99 0 0) (hr : ∀ j, rI (N 61 0 j)) (hn : 6 * n + 6 ≤ (N 61 1 0).toNat) (hl : (N 61 1 0).toNat ≤ 3072) (next : ∀ N' g', Fin2 N N' g' → AW K YL_law hL_law (qI Pq) 2059 [some (vr 61 0), some (vr 0 0), some (vr 40 0), some (vr 60 0), some (vi (6 * (n : Int))), none, none] [] N' g') : AW K YL_law hL_law (qI Pq) 389 [some (vr 61 0), some (vr 0 0), some (vr 40 0), some (vr 60 0), some (vi (6 * (n : Int))), none, none] [] N g := by
  obtain ⟨d, wg, p, T, L, h⟩ := hI
  refine ld_a1 iL_law_389 ?_
  refine ld_a0 iL_law_390 ?_
  refine ld_i4 iL_law_391 ?_
  refine r_iconst iL_law_393 ?_
  refine r_iadd iL_law_394 ?_
  refine al_61 (n := (6 * n + 1)) (by omega) (by omega) (by omega) iL_law_395 ?_
  refine ld_a0 iL_law_396 ?_
  refine ld_i4 iL_law_397 ?_
  refine r_iconst iL_law_399 ?_
  refine r_iadd iL_law_400 ?_
  refine al_61 (n := (6 * n + 2)) (by omega) (by omega) (by omega) iL_law_401 ?_
  refine ld_a3 iL_law_402 ?_
  refine r_callSW (Y' := YL_account) (as := [vr 0 0, vi (N 61 0 (6 * n + 1)), vi (N 61 0 (6 * n + 2)), vr 60 0]) (st := []) (hh := tbA) iL_law_403 kML_43 kSL_account kWL_account kNL (n := 4) (by decide +kernel) rfl (by decide) (h' := hL_account) (by decide) (by decide) rfl rfl ?_
  refine CkW.post ?_ (q_account h (hr _) (hr _) h99)
  rintro _ N1 g1 ⟨z, rfl, s1, hm⟩
  have s61 := s1 1 0
  refine sv_i5 (by decide) rfl iL_law_406 ?_
  refine ld_a2 iL_law_408 ?_
  refine ld_a0 iL_law_409 ?_
  refine ld_i4 iL_law_410 ?_
  refine r_iconst iL_law_412 ?_
  refine r_iadd iL_law_413 ?_
  refine al_61 (n := (6 * n + 1)) (by omega) (by omega) (by omega) iL_law_414 ?_
  rw [s1 0 (6 * n + 1)]
  refine ld_a0 iL_law_415 ?_
  refine ld_i4 iL_law_416 ?_
  refine r_iconst iL_law_418 ?_
  refine r_iadd iL_law_419 ?_
  refine al_61 (n := (6 * n + 2)) (by omega) (by omega) (by omega) iL_law_420 ?_
  rw [s1 0 (6 * n + 2)]
  refine xX10_account kML_48 iL_law_421 (by decide) (Nat.le_of_ble_eq_true rfl) rfl rfl ?_
  refine Ck.mapI ?_ hm
  rintro b N2 g2 ⟨e0, hz, hf⟩
  refine sv_i6 (by decide) rfl iL_law_424 ?_
  refine ld_a2 iL_law_426 ?_
  refine xX10_thrown kML_49 iL_law_427 (by decide) (Nat.le_of_ble_eq_true rfl) rfl rfl ?_
  refine m_thrown ?_
  rw [e0]
  refine ld_i5 iL_law_430 ?_
  refine r_icmpeqS iL_law_432 ?_
  exact law_5b hz (next _ _ hf)
end Law20d
