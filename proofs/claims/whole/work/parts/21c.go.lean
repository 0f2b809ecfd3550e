/-! own text: from behind the constructors to the law's end -/
theorem lw_go {K : Kx} {p : Program} {e : Env} {s : State} {m : MethodId} {below : List Frame} {meth : Method} {c : Code} {b : Nat} {ad0 ad : Nat → Nat → Nat} {N : Nm} {g : Ge} {H : Heap} {locs : List Loc} {cells slots len : Nat} {L : Array Slot} (C : Cx K YL_law hL_law p room_1 s m #[Value.ref b] meth c 601024) (hK : K.2.1 = s.heap.size) (hP : Px K s ad0 601024 N g ad H locs cells slots)
    (hL : lv_has L 7 [(0, .ref (ad 61 0)), (1, .ref (ad 0 0)), (2, .ref (ad 40 0)), (3, .ref (ad 60 0)), (4, .int (Int32.ofInt (6 * ((0 : Nat) : Int))))]) (hI : Inv N g) (hr : ∀ j, rI (N 61 0 j)) (hlen : (N 61 1 0).toNat = len) (hl : len ≤ 3072) (hgh : (len : Int) ≤ 6 * N 99 0 0) :
    W p K.1 e room_1 s m #[Value.ref b] below meth c H locs cells slots (lw_Z below #[Value.ref b] s) (F0 m 23 L []) := by
  intro T hT X
  obtain ⟨t, a1, b1⟩ := law_loop (K := K) (Pq := fun z _ _ => z = 1) hl (fun _ _ => rfl) _ 0 N g rfl (by omega) hI hr hlen (by omega) p e room_1 s m #[Value.ref b] below meth c ad0 601024 C H locs cells slots ad L hP hL (fun v hv => by
    simp only [List.mem_cons, List.not_mem_nil, or_false, Option.some.injEq, reduceCtorEq] at hv
    rcases hv with rfl | rfl | rfl | rfl | rfl
    · show 0 < cnt 61; decide
    · show 0 < cnt 0; decide
    · show 0 < cnt 40; decide
    · show 0 < cnt 60; decide
    · trivial) oks_nil T hT X
  exact ⟨t, a1, lw_ofRQ hK b1⟩
