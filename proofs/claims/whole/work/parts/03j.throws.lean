/-! own text: a method ends by the exception -/
def TQ (K : Kx) (QT : Nm → Ge → Prop) (ad0 : Nat → Nat → Nat) (g0 : Nat) (st : State) (q : Addr) (t : State) : Prop :=
  ∃ (ce : Cell) (L : List Loc) (k n : Nat) (N' : Nm) (g' : Ge) (ad' : Nat → Nat → Nat), t.heap[q]? = some ce ∧ ce.vm = .none ∧ st.vm.findClass xN = some ce.cls ∧ st.WarmedH t.vm ∧ st.sameButNew ({ t with vm := st.vm } : State) L k n ∧ (∀ z ∈ L, K.2.1 ≤ z.base) ∧
    QT N' g' ∧ Hold K g' N' ad' t.heap ∧ Agr ad0 ad' ∧ st.heap.size ≤ t.heap.size ∧ (∀ q, q < K.2.1 → t.heap[q]? = st.heap[q]?) ∧ k + pot2 N' g' ≤ g0 ∧ n + 6 * pot2 N' g' ≤ 6 * g0
def RT0 (K : Kx) (QT : Nm → Ge → Prop) (below : List Frame) (s : State) (ad0 : Nat → Nat → Nat) (g0 : Nat) : State → Prop := fun t => ∃ q, t.status = .running ∧ Ended t below (.threw q) ∧ TQ K QT ad0 g0 s q t
def RT (K : Kx) (QT : Nm → Ge → Prop) (below : List Frame) (s : State) (ad0 : Nat → Nat → Nat) (g0 : Nat) : State → Prop := fun t => ∃ d : Drawn, s.drawn.sameBut d lw_cs ∧ RT0 K QT below (s.setDrawn d) ad0 g0 t
theorem RT.drew {K : Kx} {QT : Nm → Ge → Prop} {below : List Frame} {s t : State} {ad0 : Nat → Nat → Nat} {g0 : Nat} {d : Drawn} (hd : s.drawn.sameBut d lw_cs) (h : RT K QT below (s.setDrawn d) ad0 g0 t) : RT K QT below s ad0 g0 t := by
  obtain ⟨d2, h2, h3⟩ := h
  exact ⟨d2, Drawn.sameBut.trans hd h2, h3⟩
theorem hcell_lt {K : Kx} {g : Ge} {N : Nm} {ad : Nat → Nat → Nat} {k i : Nat} {H : Heap} (h : hcell K g N ad k i H) : ad k i < H.size := by
  unfold hcell at h
  split at h
  · obtain ⟨q, -, cell, h1, -⟩ := h
    exact (Array.getElem?_eq_some_iff.mp h1).1
  · exact (Array.getElem?_eq_some_iff.mp h).1
  · exact (Array.getElem?_eq_some_iff.mp h).1
  · exact (Array.getElem?_eq_some_iff.mp h).1
  · exact h.lt
  · exact h.elim
/-- a cell more, and a ghost number changed -/
theorem Hold.more {K : Kx} {g : Ge} {N : Nm} {ad : Nat → Nat → Nat} {H H' : Heap} {z : Int} (h : Hold K g N ad H) (hq : ∀ q, q < H.size → H'[q]? = H[q]?) : Hold K g (upN N 99 0 0 z) ad H' := by
  refine ⟨h.1, fun k i hi => ⟨(h.2.1 k i hi).1, ?_⟩, h.2.2⟩
  have hc := (h.2.1 k i hi).2
  refine hcell_at hc (hq _ (hcell_lt hc)) (fun j => upN_k (fun e => ?_)) (upN_k (by decide))
  rw [e] at hi
  exact absurd hi (Nat.not_lt_zero i)
/-- the ghost: one exception fewer may come -/
abbrev gh (N : Nm) : Nm := upN N 99 0 0 (N 99 0 0 - 1)
theorem pot2_gh {N : Nm} {g : Ge} (h : 1 ≤ N 99 0 0) : pot2 (gh N) g + 1 = pot2 N g := by
  unfold pot2 gh
  rw [upN_eq]
  omega
set_option maxHeartbeats 1000000 in
theorem nx_throw {K : Kx} {Y : Ys} {h : Nat} {p : Program} {e : Env} {R : Room} {s : State} {m : MethodId} {args : Array Value} {below : List Frame} {meth : Method} {c : Code} {g0 : Nat} (C : Cx K Y h p R s m args meth c g0) (hY : Y.1.cls = RX9) (h6 : 6 ≤ h) {ad0 ad : Nat → Nat → Nat} {N : Nm} {g : Ge} {H : Heap} {locs : List Loc} {cells slots : Nat} (hP : Px K s ad0 g0 N g ad H locs cells slots)
    {QT : Nm → Ge → Prop} {pc : Nat} {ls : Array Slot} (hsize : ls.size = c.maxLocals) (hN : 1 ≤ N 99 0 0) (hQ : QT (gh N) g) (hk : Cond.classLink RX9 115 xN ∈ TW) (hini : Cond.initialized xN ∈ TW)
    (d0 : decode Y.2.1 pc = .ok (.new 115, 3)) (d3 : decode Y.2.1 (pc + 3) = .ok (.dup, 1)) (d4 : decode Y.2.1 (pc + 4) = .ok (.ldc 117, 2)) (d6 : decode Y.2.1 (pc + 6) = .ok (.invokespecial 119, 3)) (d9 : decode Y.2.1 (pc + 9) = .ok (.athrow, 1))
    (hout : ∀ x ∈ c.exceptionTable.toList, covers x (pc + 9) = false) : W p K.1 e R s m args below meth c H locs cells slots (RT K QT below s ad0 g0) (F0 m pc ls []) := by
  intro T hT X
  obtain ⟨hexec, hb, hml, hown, hts, hlocks, -, -, hfr, hlo, hcl, hsl, hz⟩ := C
  obtain ⟨hH, hA, hlc, hsz, hlow, hb1, hb2, hbase⟩ := hP
  have hpot := pot2_gh (g := g) hN
  rw [hY] at hown
  obtain ⟨-, -, ⟨sa, hstr⟩, hnt, -⟩ := id hz
  have htr : e.platform.stackTraces = false := (show e.platform.stackTraces = K.1.stackTraces by rw [X.admits.platform]).trans hnt
  have Y1 := vx_rebase X (R' := { frames := R.frames, locals := R.locals, cells := 1, slots := 6 }) (Nat.le_refl _) (Nat.le_refl _) (by show cells + 1 ≤ R.cells; omega) (by show slots + 6 ≤ R.slots; omega)
  obtain ⟨s', hA1⟩ : ∃ z, z = (T.setVm s.vm).setFrames (.invoking m args :: below) := ⟨_, rfl⟩
  rw [← hA1] at Y1
  have hvm : s'.vm = s.vm := by rw [hA1]; rfl
  have hhp : s'.heap = H := by rw [hA1]; exact hT
  have hW0 : s.WarmedH s'.vm := by rw [hvm]; exact State.WarmedH.refl s
  have hz' : ZK K s' s'.heap := ZK.moved (u := s) (U := s') (H := s.heap) hW0 (fun q hq => by rw [hhp]; exact hlow q hq) hz
  have hts' := tw_warm (a' := args) hts hW0
  have hat := nx_hat (args := args) hts' hz'
  have hown' : s'.vm.findClass RX9 = some m.cls := by rw [hvm]; exact hown
  have hins : (Cond.instantiable xN 6).before args s' = true := hat _ (by simp [nx_at])
  obtain ⟨vm₁, cX, kX, hfX, hkX, -, -, X₁, st1⟩ := Y1.newCold hexec (own := RX9) (C := xN) (index := 115) (n := 6) hown' (hts' _ hk) hins (hts' _ hini) (g := F0 m pc ls []) rfl (by rw [hb]; exact d0) (Nat.le_refl _) (Nat.le_refl _)
  generalize hT1 : (T.setVm vm₁).pushCell { cls := cX, slots := kX.instanceTypes.map defaultValue, vm := .none } = T1 at X₁ st1
  have hcat : (Value.ref T.heap.size).category = 1 := rfl
  have hcellA : T1.heap[T.heap.size]? = some (freshCell cX kX) := by rw [← hT1]; exact State.heap_pushCell_size _ _
  have d3' : decode c.code (pc + 3) = .ok (.dup, 1) := by rw [hb]; exact d3
  have d4' : decode c.code (pc + 4) = .ok (.ldc 117, 2) := by rw [hb]; exact d4
  have hstr' : vk_R RX9 117 "no such account, or nothing of it by this number" sa s' := vk_R.warm hW0 hstr
  obtain ⟨U, hsteps, hrun, hend, hW, hsame, ce, hce, hcv, hcc⟩ := nx_ctor X₁ hexec htr hown' hat (fun x hx => nomatch hx) hfX hkX hcellA (by rw [hhp, hT]; exact Nat.le_refl _) (msg := .ref sa) rfl
    (g := { method := m, pc := pc + 6, locals := ls, stack := .ref sa :: .ref T.heap.size :: .ref T.heap.size :: [], locked := none }) rfl hsize rfl rfl (rest := []) rfl
    (by rw [hb]; exact d6) (by rw [hb]; exact d9) hout (by show 5 < R.frames; omega) (by show 2 * 0 + ((Value.ref T.heap.size :: []).map fun v => v.category).sum + 81 ≤ R.locals; simp only [List.map_cons, List.sum_cons, hcat, List.map_nil, List.sum_nil]; omega) hlocks
  obtain ⟨f1, f2⟩ := vx_frame hsame
  rw [hhp] at f1 f2
  have hWs : s.WarmedH U.vm := State.WarmedH.trans hW0 hW
  have hcl9 : s.vm.findClass xN = some ce.cls := by rw [hvm] at hcc; exact hcc
  have hall : s.sameButNew ({ U with vm := s.vm } : State) locs (cells + 1) (slots + 6) := by
    subst hA1
    obtain ⟨e1, e2⟩ := hsame
    rw [State.setFrames_setFrames] at e1
    have h2 : (T.setVm s.vm).sameButNew ({ U with vm := s.vm } : State) [] (0 + 1) (0 + 6) := ⟨e1, e2⟩
    have h3 := X.same.trans h2
    rw [List.append_nil] at h3
    exact h3
  have f3 : ∀ q, q < H.size → U.heap[q]? = H[q]? := fun q hq => f2 q hq (fun z hz => nomatch hz)
  refine ⟨U, ?_, s.drawn, Drawn.sameBut.refl _ _, T.heap.size, hrun, hend, ce, locs, cells + 1, slots + 6, gh N, g, ad, hce, hcv, hcl9, hWs, hall, hlc, hQ, hH.more f3, hA, Nat.le_trans hsz f1, fun q hq => ?_, by omega, by omega⟩
  · refine st1 _ ?_
    show Steps p.tables e below (T1.setTop { method := m, pc := pc + 3, locals := ls, stack := .ref T.heap.size :: [], locked := none }) _
    jvm_step X₁.here [X₁.here.top, hexec, d3', Value.category]
    exact X₁.ldcString hexec (own := RX9) (text := "no such account, or nothing of it by this number") (index := 117) (a := sa) hown' hstr'.1 hstr'.2
      (g := { method := m, pc := pc + 4, locals := ls, stack := .ref T.heap.size :: .ref T.heap.size :: [], locked := none }) rfl d4' _ hsteps
  · rw [f3 q (by omega)]
    exact hlow q hq
