/-! own text: calls, ends, the beginning of a method -/
/-- a method's words, under warmer tables -/
theorem tw_warm {s U : State} {args a' : Array Value} (hts : ∀ w ∈ TW, w.before args s = true) (hW : s.WarmedH U.vm) : ∀ w ∈ TW, w.before a' U = true := fun w hw => word_at hW (good_of_word (tw_good hw)) (hts w hw)
/-- a call of Y' out of a method: what stands ahead of it, what behind -/
def BPre (K : Kx) (R : Room) (N : Nm) (g : Ge) (ad : Nat → Nat → Nat) (as : List AV) : Pt → Array Value → Prop := fun A a => A.cells + pot2 N g ≤ R.cells ∧ A.slots + 6 * pot2 N g ≤ R.slots ∧ CkPre K N g ad as a A.U
def BPost (K : Kx) (Q : Qt) (g : Nat) (ad : Nat → Nat → Nat) : Pt → Array Value → Option Value → Pt → Prop := fun A _ v B =>
  ∃ (st t : State) (L : List Loc) (k n : Nat), st.heap = A.U.heap ∧ B.U.heap = t.heap ∧ B.U.vm = t.vm ∧ QK K Q ad g st (.returned v) t k n ∧ B.locs = A.locs ++ L ∧ (∀ q ∈ L, K.2.1 ≤ q.base) ∧ B.cells = A.cells + k ∧ B.slots = A.slots + n
theorem Ck.back {K : Kx} {Y : Ys} {h : Nat} {as : List AV} {N : Nm} {g : Ge} {Q : Qt} (hck : Ck K Y h as N g Q) (hok : oks as) (ad : Nat → Nat → Nat) {R : Room} {p : Program} {e : Env} {below : List Frame} {s : State} {sargs : Array Value}
    (hts : ∀ w ∈ TW, w.before sargs s = true) (hcode : Cond.code Y.1 Y.2.1 Y.2.2.1 Y.2.2.2 ∈ TW) (hini : Cond.initialized Y.1.cls ∈ TW) (hfr : h + 1 ≤ R.frames) (hlo : 8 + (Y.2.2.1 + 11) + 64 * h ≤ R.locals) :
    BackD lw_cs K.1 R p e below s sargs Y.1 3 8 (BPre K R N g ad as) (BPost K Q (pot2 N g) ad) := by
  refine Back.of_freeD (Q := CkP0 K Q (pot2 N g) ad) (S := headSpec (wsY Y) (rmK h (pot2 N g))) (bytes := Y.2.1) (maxL := Y.2.2.1) (ret := Y.2.2.2) (E := fun a st o t L k n => (∀ q ∈ L, K.2.1 ≤ q.base) ∧ QK K Q ad (pot2 N g) st o t k n) (hck hok ad) hfr hlo ?_ ?_ ?_ ?_
  · intro m meth c A a X hp
    have hw := tw_warm (a' := a) hts X.warmed
    refine ⟨atoms_intro fun w hw' => ?_, hw _ hcode, hw _ hini, hp.1, hp.2.1⟩
    rcases List.mem_cons.mp hw' with rfl | h'
    · exact hw _ hcode
    · exact hw _ h'
  · intro m meth c A a g' mk X hp
    obtain ⟨-, -, h1, h2, h3, h4, h5⟩ := hp
    exact ⟨h1, KK.moved (u := A.U) (U := A.U.calling g' mk a) (Vm.Alike.refl A.U.vm) h2, h3, h4, ZK.moved (u := A.U) (U := A.U.calling g' mk a) (H := A.U.heap) (State.WarmedH.refl A.U) (fun _ _ => rfl) h5⟩
  · intro a st o t ⟨L, k, n, hF, hL, hq⟩
    exact ⟨L, k, n, hF, hL, hq⟩
  · intro A a g' mk v t L k n hq hF ⟨hL, hqk⟩
    exact ⟨A.U.calling g' mk a, t, L, k, n, rfl, rfl, rfl, hqk, rfl, hL, rfl, rfl⟩
section Rows4
variable {K : Kx} {Y Y' : Ys} {h h' : Nat} {Q : Qt} {pc pc' : Nat} {ls : List (Option AV)} {st : List AV} {N : Nm} {g : Ge}
theorem Px.back {s : State} {ad0 ad ad' : Nat → Nat → Nat} {g0 : Nat} {g' : Ge} {N' : Nm} {H H' : Heap} {locs L : List Loc} {cells slots k n : Nat} {st₀ t : State} {r : Option AV} {v : Option Value} (hP : Px K s ad0 g0 N g ad H locs cells slots) (h0 : st₀.heap = H) (e1 : H' = t.heap) (hL : ∀ q ∈ L, K.2.1 ≤ q.base)
    (q3 : Hold K g' N' ad' t.heap) (q4 : Agr ad ad') (q6 : st₀.heap.size ≤ t.heap.size) (q7 : ∀ q, q < K.2.1 → t.heap[q]? = st₀.heap[q]?) (q8 : k + pot2 N' g' ≤ pot2 N g) (q9 : n + 6 * pot2 N' g' ≤ 6 * pot2 N g) : Px K s ad0 g0 N' g' ad' H' (locs ++ L) (cells + k) (slots + n) := by
  obtain ⟨h1, h2, h3, h4, h5, h6, h7, h8⟩ := hP
  refine ⟨by rw [e1]; exact q3, h2.tr q4, fun q hq => ?_, by rw [e1]; rw [h0] at q6; omega, fun q hq => by rw [e1, q7 q hq, h0]; exact h5 q hq, by omega, by omega, h8⟩
  rcases List.mem_append.mp hq with h | h
  · exact h3 q h
  · exact hL q h
/-- behind a call -/
theorem AW.back {p : Program} {e : Env} {R : Room} {s : State} {m : MethodId} {args : Array Value} {below : List Frame} {meth : Method} {c : Code} {ad0 : Nat → Nat → Nat} {g0 : Nat} (C : Cx K Y h p R s m args meth c g0) {H : Heap} {locs : List Loc} {cells slots : Nat} {ad : Nat → Nat → Nat} {Ls : Array Slot} (hP : Px K s ad0 g0 N g ad H locs cells slots)
    (hL : lv_has Ls Y.2.2.1 (lvs ad 0 ls)) (hl : okl ls) (hs : oks st) (nL : ls.all nml = true) (nS : st.all nmo = true) {v : Option Value} {B : Pt} {vm₁ : Vm} {T : State} {dd : Drawn} (hdd : s.drawn.sameBut dd lw_cs) (hT : T.heap = H) (X' : Stand p K.1 e R (s.setDrawn dd) m args below meth c B.U B.locs B.cells B.slots) {a : Array Value}
    (hpost : BPost K (fun r N' g' => AW K Y h Q pc' ls (r.toList ++ st) N' g') (pot2 N g) ad ⟨(T.setVm vm₁).setDrawn dd, locs, cells, slots⟩ a v B) : ∃ t, Steps p.tables e below (B.U.setTop (F0 m pc' Ls (v.toList ++ st.map (cv ad)))) t ∧ RQ K Q below s ad0 g0 t := by
  obtain ⟨st₀, t, L, k, n, h0, e1, e2, ⟨r, N', g', ad', q1, q2, q3, q4, q5, q6, q7, q8, q9⟩, hlo, hLb, hc, hsl⟩ := hpost
  have h0' : st₀.heap = H := h0.trans hT
  have hv : v = r.map (cv ad') := Outcome.returned.inj q1
  have hst : v.toList ++ st.map (cv ad) = (r.toList ++ st).map (cv ad') := by
    rw [hv, List.map_append, map_agr q4 hs nS]
    cases r <;> rfl
  have hP' := Px.back (v := v) (r := r) hP h0' e1 hLb q3 q4 q6 q7 q8 q9
  dsimp only [Pt.locs, Pt.cells, Pt.slots] at hlo hc hsl
  have X2 : Stand p K.1 e R (s.setDrawn dd) m args below meth c B.U (locs ++ L) (cells + k) (slots + n) := by
    have X3 := X'
    dsimp only [Pt.locs, Pt.cells, Pt.slots] at X3
    rw [hlo, hc, hsl] at X3
    exact X3
  rw [hst]
  have hoks : oks (r.toList ++ st) := by
    intro w hw
    rcases List.mem_append.mp hw with h1 | h1
    · cases r with
      | none => cases h1
      | some x => rw [List.mem_singleton.mp h1]; exact q5 x rfl
    · exact hs w h1
  obtain ⟨t2, a2, b2⟩ := q2 p e R (s.setDrawn dd) m args below meth c ad0 g0 (C.drew dd) B.U.heap (locs ++ L) (cells + k) (slots + n) ad' Ls hP' (by rw [lvs_agr q4 0 hl nL]; exact hL) hl hoks B.U rfl X2
  exact ⟨t2, a2, RQ.drew hdd b2⟩
theorem r_callV {k i c idx n : Nat} {q : vw_C} {as : List AV} (hat : At Y pc (.invokevirtual idx) 3 pc') (hlink : Cond.methodLink Y.1.cls idx Y'.1 ∈ TW) (hinst : Cond.instanceMethod Y'.1 ∈ TW) (hsel : Cond.selects Y'.1.cls Y'.1 Y'.1 ∈ TW) (hcode : Cond.code Y'.1 Y'.2.1 Y'.2.2.1 Y'.2.2.2 ∈ TW) (hini : Cond.initialized Y'.1.cls ∈ TW)
    (hd : Y'.1.cls ≠ "java/lang/invoke/MethodHandle" ∧ Y'.1.cls ≠ "java/lang/invoke/VarHandle" ∧ (parseMethodDescriptor Y'.1.desc).map (fun d => d.parameters.length) = some n) (hn : as.length = n) (hk : kd k = (0, c)) (hc : clsL[c]? = some q) (hq : q.1 = Y'.1.cls) (hm : Y'.2.2.1 ≤ 44) (hh : h' + 1 ≤ h)
    (hcat : (st.map cat).sum ≤ 8) (nL : ls.all nml = true) (nS : st.all nmo = true) (hck : Ck K Y' h' (vr k i :: as) N g (fun r N' g' => AW K Y h Q pc' ls (r.toList ++ st) N' g')) : AW K Y h Q pc ls (as.reverse ++ vr k i :: st) N g := by
  obtain ⟨d, rfl⟩ := hat
  intro p e R s m args below meth cd ad0 g0 C H locs cells slots ad L hP hL hl hs T hT X
  have hts := C.2.2.2.2.1
  have h8 := C.2.2.2.2.2.2.2.2
  have hsr : oks (vr k i :: st) := fun w hw => hs w (List.mem_append_right _ hw)
  have has : oks (vr k i :: as) := oks_cons (oks_hd hsr) (fun w hw => hs w (List.mem_append_left _ (List.mem_reverse.mpr hw)))
  have hK : BackD lw_cs K.1 R p e below s args Y'.1 3 8 (BPre K R N g ad (vr k i :: as)) (BPost K (fun r N' g' => AW K Y h Q (pc + 3) ls (r.toList ++ st) N' g') (pot2 N g) ad) := Ck.back hck has ad hts hcode hini (by omega) (by omega)
  have hob := hold_obj hP.1 (oks_hd hsr) hk hc
  obtain ⟨cell, q1, q2, q3, -⟩ := hob
  have hfc := (C.2.2.2.2.2.2.2.1.1 c _ hc).2.1
  obtain ⟨v, vm₁, B, dd, hdd, hW₁, X', hpost, stp⟩ := callV_D X C.1 (C := Y'.1.cls) (bytes := Y'.2.1) (maxL := Y'.2.2.1) (ret := Y'.2.2.2) C.2.2.2.1 (hts _ hlink) (hts _ hinst) (hts _ hsel) (hts _ hcode) ⟨hd.1, hd.2.1⟩ hK (b := ad k i) (cellB := cell) (by rw [hT]; exact q1) (by rw [q3]; rfl) (by rw [q2, ← hq]; exact hfc) (g := F0 m pc L ((as.reverse ++ vr k i :: st).map (cv ad))) rfl (hL.1.trans C.2.2.1.symm) (argsL := as.map (cv ad)) (rest := st.map (cv ad))
    (fun sig hsig => by
      have h2 := hd.2.2
      rw [hsig] at h2
      rw [List.length_map, hn]
      exact (Option.some.inj h2).symm)
    (by rw [List.map_append, List.map_reverse]; rfl)
    (by
      have : (st.map (cv ad)).map (fun v => v.category) = st.map cat := by
        rw [List.map_map]
        exact List.map_congr_left (fun v _ => cv_cat ad v)
      exact lv_room (by rw [this]; exact hcat))
    (by rw [C.2.1]; exact d)
    (fun vm₁ hW₁ => ⟨Nat.le_trans hP.2.2.2.2.2.1 h8.2.2.1, Nat.le_trans hP.2.2.2.2.2.2.1 h8.2.2.2.1, rfl, KK.moved (u := s) hW₁.alike C.2.2.2.2.2.2.2.1, by rw [State.setVm]; exact hT ▸ hP.1, by have h4 := hP.2.2.2.1; have h5 := hP.2.2.2.2.2.2.2; rw [← hT] at h4; exact Nat.le_trans h5 h4, ZK.moved (u := s) (U := T.setVm vm₁) (H := s.heap) (H1 := T.heap) hW₁ (fun q hq => by rw [hT]; exact hP.2.2.2.2.1 q hq) h8.2.2.2.2⟩)
  obtain ⟨t, a1, b1⟩ := AW.back C hP hL hl (oks_tl hsr) nL nS hdd hT X' hpost
  exact ⟨t, stp t a1, b1⟩
theorem r_callS {idx n : Nat} {as : List AV} (hat : At Y pc (.invokestatic idx) 3 pc') (hlink : Cond.methodLink Y.1.cls idx Y'.1 ∈ TW) (hstat : Cond.static Y'.1 ∈ TW) (hcode : Cond.code Y'.1 Y'.2.1 Y'.2.2.1 Y'.2.2.2 ∈ TW) (hini : Cond.initialized Y'.1.cls ∈ TW)
    (hd : Y'.1.cls ≠ "java/lang/invoke/MethodHandle" ∧ Y'.1.cls ≠ "java/lang/invoke/VarHandle" ∧ (parseMethodDescriptor Y'.1.desc).map (fun d => d.parameters.length) = some n) (hn : as.length = n) (hm : Y'.2.2.1 ≤ 44) (hh : h' + 1 ≤ h)
    (hcat : (st.map cat).sum ≤ 8) (nL : ls.all nml = true) (nS : st.all nmo = true) (hck : Ck K Y' h' as N g (fun r N' g' => AW K Y h Q pc' ls (r.toList ++ st) N' g')) : AW K Y h Q pc ls (as.reverse ++ st) N g := by
  obtain ⟨d, rfl⟩ := hat
  intro p e R s m args below meth cd ad0 g0 C H locs cells slots ad L hP hL hl hs T hT X
  have hts := C.2.2.2.2.1
  have h8 := C.2.2.2.2.2.2.2.2
  have hsr : oks st := fun w hw => hs w (List.mem_append_right _ hw)
  have has : oks as := fun w hw => hs w (List.mem_append_left _ (List.mem_reverse.mpr hw))
  have hK : BackD lw_cs K.1 R p e below s args Y'.1 3 8 (BPre K R N g ad as) (BPost K (fun r N' g' => AW K Y h Q (pc + 3) ls (r.toList ++ st) N' g') (pot2 N g) ad) := Ck.back hck has ad hts hcode hini (by omega) (by omega)
  obtain ⟨v, vm₁, B, dd, hdd, hW₁, X', hpost, stp⟩ := callS_D X C.1 (bytes := Y'.2.1) (maxL := Y'.2.2.1) (ret := Y'.2.2.2) C.2.2.2.1 (hts _ hlink) (hts _ hstat) (hts _ hini) (hts _ hcode) ⟨hd.1, hd.2.1⟩ hK (g := F0 m pc L ((as.reverse ++ st).map (cv ad))) rfl (hL.1.trans C.2.2.1.symm) (argsL := as.map (cv ad)) (rest := st.map (cv ad))
    (fun sig hsig => by
      have h2 := hd.2.2
      rw [hsig] at h2
      rw [List.length_map, hn]
      exact (Option.some.inj h2).symm)
    (by rw [List.map_append, List.map_reverse])
    (by
      have : (st.map (cv ad)).map (fun v => v.category) = st.map cat := by
        rw [List.map_map]
        exact List.map_congr_left (fun v _ => cv_cat ad v)
      exact lv_room (by rw [this]; exact hcat))
    (by rw [C.2.1]; exact d)
    (fun vm₁ hW₁ => ⟨Nat.le_trans hP.2.2.2.2.2.1 h8.2.2.1, Nat.le_trans hP.2.2.2.2.2.2.1 h8.2.2.2.1, rfl, KK.moved (u := s) hW₁.alike C.2.2.2.2.2.2.2.1, by rw [State.setVm]; exact hT ▸ hP.1, by have h4 := hP.2.2.2.1; have h5 := hP.2.2.2.2.2.2.2; rw [← hT] at h4; exact Nat.le_trans h5 h4, ZK.moved (u := s) (U := T.setVm vm₁) (H := s.heap) (H1 := T.heap) hW₁ (fun q hq => by rw [hT]; exact hP.2.2.2.2.1 q hq) h8.2.2.2.2⟩)
  obtain ⟨t, a1, b1⟩ := AW.back C hP hL hl hsr nL nS hdd hT X' hpost
  exact ⟨t, stp t a1, b1⟩
/-! ends -/
def QcE (r : Option AV) (ad : Nat → Nat → Nat) (H : Heap) : Array Value → State → Outcome → State → Prop := fun _ _ o t => o = .returned (r.map (cv ad)) ∧ t.heap = H
theorem AW.fin {p : Program} {e : Env} {R : Room} {s : State} {m : MethodId} {args : Array Value} {below : List Frame} {meth : Method} {c : Code} {ad0 : Nat → Nat → Nat} {g0 : Nat} {H : Heap} {locs : List Loc} {cells slots : Nat} {ad : Nat → Nat → Nat} {gf : JFrame} (r : Option AV) (hP : Px K s ad0 g0 N g ad H locs cells slots) (hr : okr r) (hq : Q r N g)
    (hw : (∀ t : State, t.heap = H → s.WarmedH t.vm → QcE r ad H args s (.returned (r.map (cv ad))) t) → (∀ q ∈ locs, (fun q => K.2.1 ≤ q) q.base) → W p K.1 e R s m args below meth c H locs cells slots (MQ below (QcE r ad H) args s cells slots (fun q => K.2.1 ≤ q)) gf) :
    W p K.1 e R s m args below meth c H locs cells slots (RQ K Q below s ad0 g0) gf := by
  intro T hT X
  obtain ⟨h1, h2, h3, h4, h5, h6, h7, h8⟩ := hP
  obtain ⟨t, a, o, b1, b2, ⟨b3, b4⟩, L, b5, b6⟩ := hw (fun t ht _ => ⟨rfl, ht⟩) h3 T hT X
  exact ⟨t, a, s.drawn, Drawn.sameBut.refl _ _, o, b1, b2, L, cells, slots, b5, b6, r, N, g, ad, b3, hq, by rw [b4]; exact h1, h2, hr, by rw [b4]; exact h4, fun q hq => by rw [b4]; exact h5 q hq, h6, h7⟩
theorem okr_n : okr none := fun _ h => by cases h
theorem okr_s {v : AV} (h : okv v) : okr (some v) := fun w e => by cases e; exact h
theorem e_int {z : Int} (hr : Y.2.2.2 = some .int) (hat : At Y pc .ireturn 1 pc') (hq : Q (some (vi z)) N g) : AW K Y h Q pc ls [vi z] N g := by
  intro p e R s m args below meth cd ad0 g0 C H locs cells slots ad L hP hL hl hs
  have hlk := C.2.2.2.2.2.1
  exact AW.fin (some (vi z)) hP (okr_s (v := vi z) trivial) hq (fun h1 h2 => W.iret C.1 C.2.1 (C.2.2.2.2.2.2.1.trans hr) h1 h2 hat.1)
theorem e_bool {z : Int} (hr : Y.2.2.2 = some .boolean) (hz : z = 0 ∨ z = 1) (hat : At Y pc .ireturn 1 pc') (hq : Q (some (vi z)) N g) : AW K Y h Q pc ls [vi z] N g := by
  intro p e R s m args below meth cd ad0 g0 C H locs cells slots ad L hP hL hl hs
  have hlk := C.2.2.2.2.2.1
  refine AW.fin (some (vi z)) hP (okr_s (v := vi z) trivial) hq (fun h1 h2 => W.zret (ty := .boolean) C.1 C.2.1 (C.2.2.2.2.2.2.1.trans hr) ?_ h1 h2 hat.1)
  rcases hz with rfl | rfl <;> rfl
theorem e_long {z : Int} (hr : Y.2.2.2 = some .long) (hat : At Y pc .lreturn 1 pc') (hq : Q (some (vl z)) N g) : AW K Y h Q pc ls [vl z] N g := by
  intro p e R s m args below meth cd ad0 g0 C H locs cells slots ad L hP hL hl hs
  have hlk := C.2.2.2.2.2.1
  exact AW.fin (some (vl z)) hP (okr_s (v := vl z) trivial) hq (fun h1 h2 => W.lret C.1 C.2.1 (C.2.2.2.2.2.2.1.trans hr) h1 h2 hat.1)
theorem e_double {z : UInt64} (hr : Y.2.2.2 = some .double) (hat : At Y pc .dreturn 1 pc') (hq : Q (some (vd z)) N g) : AW K Y h Q pc ls [vd z] N g := by
  intro p e R s m args below meth cd ad0 g0 C H locs cells slots ad L hP hL hl hs
  have hlk := C.2.2.2.2.2.1
  exact AW.fin (some (vd z)) hP (okr_s (v := vd z) trivial) hq (fun h1 h2 => W.dret C.1 C.2.1 (C.2.2.2.2.2.2.1.trans hr) h1 h2 hat.1)
theorem e_void (hr : Y.2.2.2 = none) (hat : At Y pc .return_ 1 pc') (hq : Q none N g) : AW K Y h Q pc ls [] N g := by
  intro p e R s m args below meth cd ad0 g0 C H locs cells slots ad L hP hL hl hs
  have hlk := C.2.2.2.2.2.1
  exact AW.fin none hP okr_n hq (fun h1 h2 => W.vret C.1 C.2.1 (C.2.2.2.2.2.2.1.trans hr) h1 h2 hat.1)
theorem e_ref {k i : Nat} {rt : FieldType} (hr : Y.2.2.2 = some rt) (hrt : (∃ n, rt = .object n) ∨ ∃ t, rt = .array t) (hat : At Y pc .areturn 1 pc') (hq : Q (some (vr k i)) N g) : AW K Y h Q pc ls [vr k i] N g := by
  intro p e R s m args below meth cd ad0 g0 C H locs cells slots ad L hP hL hl hs
  have hlk := C.2.2.2.2.2.1
  exact AW.fin (some (vr k i)) hP (okr_s (v := vr k i) (oks_hd hs)) hq (fun h1 h2 => W.aret C.1 C.2.1 (C.2.2.2.2.2.2.1.trans hr) hrt (Or.inr ⟨_, rfl⟩) h1 h2 hat.1)
/-! the beginning -/
def ent (as : List AV) : List (Option AV) := as.flatMap (fun v => if cat v = 2 then [some v, none] else [some v])
theorem ent_in (ad : Nat → Nat → Nat) : ∀ (as : List AV) (n : Nat) (t : List (Option AV)), (∀ v, some v ∉ t) → ∀ q, q ∈ lvs ad n (ent as ++ t) → q ∈ lv_args n (as.map (cv ad))
  | [], n, t, ht, q, hq => by
    obtain ⟨i, v, h1, -⟩ := (lvs_in ad _ n q).mp hq
    exact absurd (List.mem_of_getElem? h1) (ht v)
  | v :: as, n, t, ht, q, hq => by
    have hc := cv_cat ad v
    by_cases h2 : cat v = 2
    · have e : ent (v :: as) ++ t = some v :: none :: (ent as ++ t) := by simp [ent, h2]
      rw [e, lvs, lvs] at hq
      rw [List.map_cons, lv_args]
      rcases List.mem_cons.mp hq with h | h
      · rw [h]; exact List.mem_cons_self
      · refine List.mem_cons_of_mem _ ?_
        have := ent_in ad as (n + 1 + 1) t ht q h
        rw [hc, h2]
        exact this
    · have h1 : cat v = 1 := by
        have := lv_cat (cv ad v)
        rw [hc] at this
        omega
      have e : ent (v :: as) ++ t = some v :: (ent as ++ t) := by simp [ent, h2]
      rw [e, lvs] at hq
      rw [List.map_cons, lv_args]
      rcases List.mem_cons.mp hq with h | h
      · rw [h]; exact List.mem_cons_self
      · refine List.mem_cons_of_mem _ ?_
        have := ent_in ad as (n + 1) t ht q h
        rw [hc, h1]
        exact this
end Rows4
