/-! own text: the end of the law's walk is the end that the claim asks for -/
theorem lw_ofRQ {K : Kx} {below : List Frame} {s t : State} {ad0 : Nat → Nat → Nat} {b : Nat} (hK : K.2.1 = s.heap.size) (h : RQ K (qI (fun z _ _ => z = 1)) below s ad0 601024 t) : lw_Z below #[Value.ref b] s t := by
  obtain ⟨d, hd, o, hrun, hend, L, k, n, hfe, hL, r, N', g', ad', q1, ⟨z, rfl, rfl⟩, q3, q4, q5, q6, q7, q8, q9⟩ := h
  refine ⟨o, hrun, hend, q1, ?_⟩
  obtain ⟨hv, hW, hs⟩ := hfe
  refine lw_closed hd hv hW (hs.weaken (fun y hy hlt => ?_) (by omega) (by omega))
  exfalso
  have h1 := hL y hy
  rw [hK] at h1
  exact Nat.not_lt.mpr h1 hlt
